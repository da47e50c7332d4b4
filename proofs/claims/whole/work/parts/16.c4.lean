theorem TI_law {I R : Nat → Nat → Int} (h : TI I R) {x : Int} (hx : 0 ≤ x ∧ x ≤ 2) : TI (u2 I 5 15 x) R := ⟨h.1, h.2.1, hx, h.2.2.2⟩
theorem TI_str {I R : Nat → Nat → Int} (h : TI I R) {w : Nat} {x : Int} (hx : 0 ≤ x ∧ x ≤ 9) : TI I (uR R 10 (u1 (R 10) w x)) := ⟨h.1, h.2.1, h.2.2.1, h.2.2.2.1, h.2.2.2.2.1, h.2.2.2.2.2.1, fun k hk => by
  show 0 ≤ u1 (R 10) w x k ∧ u1 (R 10) w x k ≤ 9
  unfold u1
  split
  · exact hx
  · exact h.str k hk, h.2.2.2.2.2.2.2⟩
theorem ft_0 {ln sz al i n : Int} (h : ft ln sz al i n = 0) : ¬ ln = -1 ∧ ln = al ∧ 0 ≤ n ∧ (0 ≤ i ∧ i ≤ sz ∧ 0 ≤ n ∧ n ≤ sz - i) := by
  unfold ft at h
  split at h
  · omega
  · split at h
    · split at h
      · omega
      · split at h
        · omega
        · omega
    · omega
def k_X3_ofWard (I R : Nat → Nat → Int) (k : Int) (what : Int) : Int := if 0 ≤ k ∧ k < I 5 14 then (if what = 0 then (R 6 (Int.toNat k)) else (if what = 1 then (R 7 (Int.toNat k)) else (if what = 2 then (R 8 (Int.toNat k)) else (if what = 3 then (fz (R 6 (Int.toNat k)) (R 7 (Int.toNat k))) else (-2))))) else (-1)
abbrev rm_X3_ofWard : Room := { frames := 2, cells := 0, slots := 0, locals := 43 }
set_option maxHeartbeats 4000000 in
set_option maxRecDepth 100000 in
theorem c_X3_ofWard {l : Launch} {D : va_G} {cI cS : ClassId} {ad : Nat → Nat} {I R : Nat → Nat → Int}  (k : Int) (what : Int)  (hV : VI I R) (hr_k : -2147483648 ≤ k ∧ k < 2147483648) (hr_what : -2147483648 ≤ what ∧ what < 2147483648): JS l yX3_ofWard wsX3_ofWard rm_X3_ofWard (jB D cI cS (wC cI cS ad I R)) [.ref (ad 0), .int (iI (k)), .int (iI (what))] (.int (iI (k_X3_ofWard I R k what))) := by
  refine JS.mkI rfl (by decide +kernel) rfl (Nat.le_of_ble_eq_true rfl) ?_
  intro p e st mi ar bl mth cd Q ls C hB hl hret
  obtain ⟨hE, hP⟩ := hB
  have hx := C.1
  have hb := C.2.1
  have hl : lv_has ls 3 [(0, .ref (ad 0)), (1, .int (iI (k))), (2, .int (iI (what)))] := hl
  have hin2 : ∀ w ∈ wsX20, w ∈ wsX3_ofWard := fun _ h => List.mem_cons_of_mem _ (List.mem_append_right _ h)
  have hin3 : ∀ w ∈ wsX30, w ∈ wsX3_ofWard := fun _ h => List.mem_cons_of_mem _ (List.mem_append_left _ (List.mem_append_right _ h))
  have hT := hV.town
  have hW := hT.works
  have hK := hT.wards
  have hSt := hV.stands
  have hset := hT.set
  have hset2 := pow_bd hW hset
  have hcel := hT.cells
  have hlaw := hT.law
  have hrd := hT.reads
  have hP8 := pw8 hW
  have h3 : ∀ x : Nat, x < 6 → (0 ≤ R 6 x ∧ R 6 x ≤ 2) ∧ (0 ≤ R 7 x ∧ R 7 x ≤ 9) ∧ (0 ≤ R 8 x ∧ R 8 x < 24) := fun x hx => ⟨hT.kind x hx, hT.nose x hx, hT.wcell x hx⟩
  refine lv_aload_n hx hb dX3_ofWard_0 rfl (lv_at hl 0 rfl) ?_
  refine fg_V_present C hin3 hE hP (List.mem_of_getElem? (i := 1) rfl) dX3_ofWard_1 ?_
  refine lv_iload_n hx hb dX3_ofWard_4 rfl (lv_at hl 1 rfl) ?_
  refine jc_V C hl.1 (jpreV hE hP 2 5 rfl rfl) (c_X2_hasWard k (show -2147483648 ≤ k ∧ k < 2147483648 from (by omega)) hT.wards) (cwV 1 C.2.2.2.2 gX3_ofWard_X2_hasWard rfl rfl rfl (by decide +kernel) ⟨Nat.le_of_ble_eq_true rfl, Nat.le_of_ble_eq_true rfl⟩) (As := [.int (iI (k))]) (v := .int (iI (if 0 ≤ k ∧ k < I 5 14 then 1 else 0))) (hn := rfl) (hst := rfl) (rest := []) (hW := Nat.le_of_ble_eq_true rfl) (hdg := dX3_ofWard_5) (hf := ⟨Nat.le_of_ble_eq_true rfl, Nat.le_of_ble_eq_true rfl⟩) ?_
  refine jz_bool_ne (tgt := 13) C dX3_ofWard_8 (by decide) (fun h8 => ?_) (fun h8 => ?_)
  · skip
    refine lv_iload_n hx hb dX3_ofWard_13 rfl (lv_at hl 2 rfl) ?_
    refine jz_sub (P := what = 0) (fun h14_0 => ?_) (fun h14_0 => ?_)
    · refine jz_tabIn (tgt := 44) C 0 dX3_ofWard_14 (by omega) rfl (by decide) ?_
      refine lv_aload_n hx hb dX3_ofWard_44 rfl (lv_at hl 0 rfl) ?_
      refine fg_V_present C hin3 hE hP (List.mem_of_getElem? (i := 1) rfl) dX3_ofWard_45 ?_
      refine fg_T_kinds C hin2 hE hP (List.mem_of_getElem? (i := 2) rfl) dX3_ofWard_48 ?_
      refine lv_iload_n hx hb dX3_ofWard_51 rfl (lv_at hl 1 rfl) ?_
      refine jc_S C hl.1 (jpreS hE hP) (c_X3_read k 6 6 (R 6) (ad 6) rfl (by decide) (show 0 ≤ k ∧ k < 6 from (by omega))) (va_cwS 2 C.2.2.2.2 gX3_ofWard_X3_read rfl rfl rfl (by decide +kernel) ⟨Nat.le_of_ble_eq_true rfl, Nat.le_of_ble_eq_true rfl⟩) (As := [.ref (ad 6), .int (iI (k))]) (v := .int (iI (R 6 (Int.toNat k)))) (hn := rfl) (hst := rfl) (rest := []) (hW := Nat.le_of_ble_eq_true rfl) (hdg := dX3_ofWard_52) (hf := ⟨Nat.le_of_ble_eq_true rfl, Nat.le_of_ble_eq_true rfl⟩) ?_
      exact jz_ret (show (k_X3_ofWard I R k what : Int) = R 6 (Int.toNat k) from by rw [k_X3_ofWard, (if_pos h8), (if_pos h14_0)]) (hret _ _ dX3_ofWard_55)
    refine jz_sub (P := what = 1) (fun h14_1 => ?_) (fun h14_1 => ?_)
    · refine jz_tabIn (tgt := 56) C 1 dX3_ofWard_14 (by omega) rfl (by decide) ?_
      refine lv_aload_n hx hb dX3_ofWard_56 rfl (lv_at hl 0 rfl) ?_
      refine fg_V_present C hin3 hE hP (List.mem_of_getElem? (i := 1) rfl) dX3_ofWard_57 ?_
      refine fg_T_noses C hin2 hE hP (List.mem_of_getElem? (i := 3) rfl) dX3_ofWard_60 ?_
      refine lv_iload_n hx hb dX3_ofWard_63 rfl (lv_at hl 1 rfl) ?_
      refine jc_S C hl.1 (jpreS hE hP) (c_X3_read k 7 6 (R 7) (ad 7) rfl (by decide) (show 0 ≤ k ∧ k < 6 from (by omega))) (va_cwS 2 C.2.2.2.2 gX3_ofWard_X3_read rfl rfl rfl (by decide +kernel) ⟨Nat.le_of_ble_eq_true rfl, Nat.le_of_ble_eq_true rfl⟩) (As := [.ref (ad 7), .int (iI (k))]) (v := .int (iI (R 7 (Int.toNat k)))) (hn := rfl) (hst := rfl) (rest := []) (hW := Nat.le_of_ble_eq_true rfl) (hdg := dX3_ofWard_64) (hf := ⟨Nat.le_of_ble_eq_true rfl, Nat.le_of_ble_eq_true rfl⟩) ?_
      exact jz_ret (show (k_X3_ofWard I R k what : Int) = R 7 (Int.toNat k) from by rw [k_X3_ofWard, (if_pos h8), (if_neg h14_0), (if_pos h14_1)]) (hret _ _ dX3_ofWard_67)
    refine jz_sub (P := what = 2) (fun h14_2 => ?_) (fun h14_2 => ?_)
    · refine jz_tabIn (tgt := 68) C 2 dX3_ofWard_14 (by omega) rfl (by decide) ?_
      refine lv_aload_n hx hb dX3_ofWard_68 rfl (lv_at hl 0 rfl) ?_
      refine fg_V_present C hin3 hE hP (List.mem_of_getElem? (i := 1) rfl) dX3_ofWard_69 ?_
      refine fg_T_wardCells C hin2 hE hP (List.mem_of_getElem? (i := 4) rfl) dX3_ofWard_72 ?_
      refine lv_iload_n hx hb dX3_ofWard_75 rfl (lv_at hl 1 rfl) ?_
      refine jc_S C hl.1 (jpreS hE hP) (c_X3_read k 8 6 (R 8) (ad 8) rfl (by decide) (show 0 ≤ k ∧ k < 6 from (by omega))) (va_cwS 2 C.2.2.2.2 gX3_ofWard_X3_read rfl rfl rfl (by decide +kernel) ⟨Nat.le_of_ble_eq_true rfl, Nat.le_of_ble_eq_true rfl⟩) (As := [.ref (ad 8), .int (iI (k))]) (v := .int (iI (R 8 (Int.toNat k)))) (hn := rfl) (hst := rfl) (rest := []) (hW := Nat.le_of_ble_eq_true rfl) (hdg := dX3_ofWard_76) (hf := ⟨Nat.le_of_ble_eq_true rfl, Nat.le_of_ble_eq_true rfl⟩) ?_
      exact jz_ret (show (k_X3_ofWard I R k what : Int) = R 8 (Int.toNat k) from by rw [k_X3_ofWard, (if_pos h8), (if_neg h14_0), (if_neg h14_1), (if_pos h14_2)]) (hret _ _ dX3_ofWard_79)
    refine jz_sub (P := what = 3) (fun h14_3 => ?_) (fun h14_3 => ?_)
    · refine jz_tabIn (tgt := 80) C 3 dX3_ofWard_14 (by omega) rfl (by decide) ?_
      refine lv_aload_n hx hb dX3_ofWard_80 rfl (lv_at hl 0 rfl) ?_
      refine fg_V_present C hin3 hE hP (List.mem_of_getElem? (i := 1) rfl) dX3_ofWard_81 ?_
      refine lv_iload_n hx hb dX3_ofWard_84 rfl (lv_at hl 1 rfl) ?_
      refine jc_V C hl.1 (jpreV hE hP 2 5 rfl rfl) (c_X2_factorOf k hT (show 0 ≤ k ∧ k < 6 from (by omega))) (cwV 1 C.2.2.2.2 gX3_ofWard_X2_factorOf rfl rfl rfl (by decide +kernel) ⟨Nat.le_of_ble_eq_true rfl, Nat.le_of_ble_eq_true rfl⟩) (As := [.int (iI (k))]) (v := .int (iI (fz (R 6 (Int.toNat k)) (R 7 (Int.toNat k))))) (hn := rfl) (hst := rfl) (rest := []) (hW := Nat.le_of_ble_eq_true rfl) (hdg := dX3_ofWard_85) (hf := ⟨Nat.le_of_ble_eq_true rfl, Nat.le_of_ble_eq_true rfl⟩) ?_
      exact jz_ret (show (k_X3_ofWard I R k what : Int) = fz (R 6 (Int.toNat k)) (R 7 (Int.toNat k)) from by rw [k_X3_ofWard, (if_pos h8), (if_neg h14_0), (if_neg h14_1), (if_neg h14_2), (if_pos h14_3)]) (hret _ _ dX3_ofWard_88)
    refine jz_tabOut (tgt := 89) C dX3_ofWard_14 (by omega) (by decide) ?_
    refine jz_bipush C dX3_ofWard_89 (by decide +kernel) ?_
    exact jz_ret (show (k_X3_ofWard I R k what : Int) = -2 from by rw [k_X3_ofWard, (if_pos h8), (if_neg h14_0), (if_neg h14_1), (if_neg h14_2), (if_neg h14_3)]) (hret _ _ dX3_ofWard_91)
  · skip
    refine jz_const C dX3_ofWard_11 ?_
    exact jz_ret (show (k_X3_ofWard I R k what : Int) = -1 from by rw [k_X3_ofWard, (if_neg h8)]) (hret _ _ dX3_ofWard_12)
def k_X3_ofWork (I R : Nat → Nat → Int) (w : Int) (what : Int) : Int := if 0 ≤ w ∧ w < I 5 13 then (if what = 0 then (R 9 (Int.toNat w)) else (if what = 1 then (R 10 (Int.toNat w)) else (if what = 2 then (vz (I 5 13) (I 5 16) w) else (-2)))) else (-1)
abbrev rm_X3_ofWork : Room := { frames := 1, cells := 0, slots := 0, locals := 22 }
set_option maxHeartbeats 4000000 in
set_option maxRecDepth 100000 in
theorem c_X3_ofWork {l : Launch} {D : va_G} {cI cS : ClassId} {ad : Nat → Nat} {I R : Nat → Nat → Int}  (w : Int) (what : Int)  (hV : VI I R) (hr_w : -2147483648 ≤ w ∧ w < 2147483648) (hr_what : -2147483648 ≤ what ∧ what < 2147483648): JS l yX3_ofWork wsX3_ofWork rm_X3_ofWork (jB D cI cS (wC cI cS ad I R)) [.ref (ad 0), .int (iI (w)), .int (iI (what))] (.int (iI (k_X3_ofWork I R w what))) := by
  refine JS.mkI rfl (by decide +kernel) rfl (Nat.le_of_ble_eq_true rfl) ?_
  intro p e st mi ar bl mth cd Q ls C hB hl hret
  obtain ⟨hE, hP⟩ := hB
  have hx := C.1
  have hb := C.2.1
  have hl : lv_has ls 3 [(0, .ref (ad 0)), (1, .int (iI (w))), (2, .int (iI (what)))] := hl
  have hin2 : ∀ w ∈ wsX20, w ∈ wsX3_ofWork := fun _ h => List.mem_cons_of_mem _ (List.mem_append_right _ h)
  have hin3 : ∀ w ∈ wsX30, w ∈ wsX3_ofWork := fun _ h => List.mem_cons_of_mem _ (List.mem_append_left _ (List.mem_append_right _ h))
  have hT := hV.town
  have hW := hT.works
  have hK := hT.wards
  have hSt := hV.stands
  have hset := hT.set
  have hset2 := pow_bd hW hset
  have hcel := hT.cells
  have hlaw := hT.law
  have hrd := hT.reads
  have hP8 := pw8 hW
  refine lv_aload_n hx hb dX3_ofWork_0 rfl (lv_at hl 0 rfl) ?_
  refine fg_V_present C hin3 hE hP (List.mem_of_getElem? (i := 1) rfl) dX3_ofWork_1 ?_
  refine lv_iload_n hx hb dX3_ofWork_4 rfl (lv_at hl 1 rfl) ?_
  refine jc_V C hl.1 (jpreV hE hP 2 5 rfl rfl) (c_X2_hasWork w (show -2147483648 ≤ w ∧ w < 2147483648 from (by omega)) hT.works) (cwV 1 C.2.2.2.2 gX3_ofWork_X2_hasWork rfl rfl rfl (by decide +kernel) ⟨Nat.le_of_ble_eq_true rfl, Nat.le_of_ble_eq_true rfl⟩) (As := [.int (iI (w))]) (v := .int (iI (if 0 ≤ w ∧ w < I 5 13 then 1 else 0))) (hn := rfl) (hst := rfl) (rest := []) (hW := Nat.le_of_ble_eq_true rfl) (hdg := dX3_ofWork_5) (hf := ⟨Nat.le_of_ble_eq_true rfl, Nat.le_of_ble_eq_true rfl⟩) ?_
  refine jz_bool_ne (tgt := 13) C dX3_ofWork_8 (by decide) (fun h8 => ?_) (fun h8 => ?_)
  · skip
    refine lv_iload_n hx hb dX3_ofWork_13 rfl (lv_at hl 2 rfl) ?_
    refine jz_sub (P := what = 0) (fun h14_0 => ?_) (fun h14_0 => ?_)
    · refine jz_tabIn (tgt := 40) C 0 dX3_ofWork_14 (by omega) rfl (by decide) ?_
      refine lv_aload_n hx hb dX3_ofWork_40 rfl (lv_at hl 0 rfl) ?_
      refine fg_V_present C hin3 hE hP (List.mem_of_getElem? (i := 1) rfl) dX3_ofWork_41 ?_
      refine fg_T_workCells C hin2 hE hP (List.mem_of_getElem? (i := 2) rfl) dX3_ofWork_44 ?_
      refine lv_iload_n hx hb dX3_ofWork_47 rfl (lv_at hl 1 rfl) ?_
      refine jc_S C hl.1 (jpreS hE hP) (c_X3_read w 9 4 (R 9) (ad 9) rfl (by decide) (show 0 ≤ w ∧ w < 4 from (by omega))) (va_cwS 2 C.2.2.2.2 gX3_ofWork_X3_read rfl rfl rfl (by decide +kernel) ⟨Nat.le_of_ble_eq_true rfl, Nat.le_of_ble_eq_true rfl⟩) (As := [.ref (ad 9), .int (iI (w))]) (v := .int (iI (R 9 (Int.toNat w)))) (hn := rfl) (hst := rfl) (rest := []) (hW := Nat.le_of_ble_eq_true rfl) (hdg := dX3_ofWork_48) (hf := ⟨Nat.le_of_ble_eq_true rfl, Nat.le_of_ble_eq_true rfl⟩) ?_
      exact jz_ret (show (k_X3_ofWork I R w what : Int) = R 9 (Int.toNat w) from by rw [k_X3_ofWork, (if_pos h8), (if_pos h14_0)]) (hret _ _ dX3_ofWork_51)
    refine jz_sub (P := what = 1) (fun h14_1 => ?_) (fun h14_1 => ?_)
    · refine jz_tabIn (tgt := 52) C 1 dX3_ofWork_14 (by omega) rfl (by decide) ?_
      refine lv_aload_n hx hb dX3_ofWork_52 rfl (lv_at hl 0 rfl) ?_
      refine fg_V_present C hin3 hE hP (List.mem_of_getElem? (i := 1) rfl) dX3_ofWork_53 ?_
      refine fg_T_strengths C hin2 hE hP (List.mem_of_getElem? (i := 3) rfl) dX3_ofWork_56 ?_
      refine lv_iload_n hx hb dX3_ofWork_59 rfl (lv_at hl 1 rfl) ?_
      refine jc_S C hl.1 (jpreS hE hP) (c_X3_read w 10 4 (R 10) (ad 10) rfl (by decide) (show 0 ≤ w ∧ w < 4 from (by omega))) (va_cwS 2 C.2.2.2.2 gX3_ofWork_X3_read rfl rfl rfl (by decide +kernel) ⟨Nat.le_of_ble_eq_true rfl, Nat.le_of_ble_eq_true rfl⟩) (As := [.ref (ad 10), .int (iI (w))]) (v := .int (iI (R 10 (Int.toNat w)))) (hn := rfl) (hst := rfl) (rest := []) (hW := Nat.le_of_ble_eq_true rfl) (hdg := dX3_ofWork_60) (hf := ⟨Nat.le_of_ble_eq_true rfl, Nat.le_of_ble_eq_true rfl⟩) ?_
      exact jz_ret (show (k_X3_ofWork I R w what : Int) = R 10 (Int.toNat w) from by rw [k_X3_ofWork, (if_pos h8), (if_neg h14_0), (if_pos h14_1)]) (hret _ _ dX3_ofWork_63)
    refine jz_sub (P := what = 2) (fun h14_2 => ?_) (fun h14_2 => ?_)
    · refine jz_tabIn (tgt := 64) C 2 dX3_ofWork_14 (by omega) rfl (by decide) ?_
      refine lv_aload_n hx hb dX3_ofWork_64 rfl (lv_at hl 0 rfl) ?_
      refine fg_V_present C hin3 hE hP (List.mem_of_getElem? (i := 1) rfl) dX3_ofWork_65 ?_
      refine lv_aload_n hx hb dX3_ofWork_68 rfl (lv_at hl 0 rfl) ?_
      refine fg_V_present C hin3 hE hP (List.mem_of_getElem? (i := 1) rfl) dX3_ofWork_69 ?_
      refine fg_T_setting C hin2 hE hP (v := I 5 16) (List.mem_of_getElem? (i := 4) rfl) dX3_ofWork_72 rfl ?_
      refine lv_iload_n hx hb dX3_ofWork_75 rfl (lv_at hl 1 rfl) ?_
      refine jc_V C hl.1 (jpreV hE hP 2 5 rfl rfl) (c_X2_vaneIn (I 5 16) w hT.works (show 0 ≤ (I 5 16) ∧ (I 5 16) < 256 from (by omega)) (show 0 ≤ w ∧ w < I 5 13 from (by omega))) (cwV 2 C.2.2.2.2 gX3_ofWork_X2_vaneIn rfl rfl rfl (by decide +kernel) ⟨Nat.le_of_ble_eq_true rfl, Nat.le_of_ble_eq_true rfl⟩) (As := [.int (iI (I 5 16)), .int (iI (w))]) (v := .int (iI (vz (I 5 13) (I 5 16) w))) (hn := rfl) (hst := rfl) (rest := []) (hW := Nat.le_of_ble_eq_true rfl) (hdg := dX3_ofWork_76) (hf := ⟨Nat.le_of_ble_eq_true rfl, Nat.le_of_ble_eq_true rfl⟩) ?_
      exact jz_ret (show (k_X3_ofWork I R w what : Int) = vz (I 5 13) (I 5 16) w from by rw [k_X3_ofWork, (if_pos h8), (if_neg h14_0), (if_neg h14_1), (if_pos h14_2)]) (hret _ _ dX3_ofWork_79)
    refine jz_tabOut (tgt := 80) C dX3_ofWork_14 (by omega) (by decide) ?_
    refine jz_bipush C dX3_ofWork_80 (by decide +kernel) ?_
    exact jz_ret (show (k_X3_ofWork I R w what : Int) = -2 from by rw [k_X3_ofWork, (if_pos h8), (if_neg h14_0), (if_neg h14_1), (if_neg h14_2)]) (hret _ _ dX3_ofWork_82)
  · skip
    refine jz_const C dX3_ofWork_11 ?_
    exact jz_ret (show (k_X3_ofWork I R w what : Int) = -1 from by rw [k_X3_ofWork, (if_neg h8)]) (hret _ _ dX3_ofWork_12)
def k_X3_law (I R : Nat → Nat → Int) (v : Int) : Int × (Nat → Nat → Int) × (Nat → Nat → Int) := if 0 ≤ v ∧ v ≤ 2 then (if (I 5 9) = 0 then ((-3, I, R)) else ((I 5 15, (u2 I 5 15 v), R))) else ((-2, I, R))
abbrev rm_X3_law : Room := { frames := 1, cells := 0, slots := 0, locals := 21 }
set_option maxHeartbeats 4000000 in
set_option maxRecDepth 100000 in
theorem c_X3_law {l : Launch} {D : va_G} {cI cS : ClassId} {ad : Nat → Nat} {I R : Nat → Nat → Int} {A : Nat → Prop} (hD : va_D A (wC cI cS ad I R))  (v : Int)  (hV : VI I R) (hr_v : -2147483648 ≤ v ∧ v < 2147483648): JV l yX3_law wsX3_law rm_X3_law (jB D cI cS (wC cI cS ad I R)) A [.ref (ad 0), .int (iI (v))] (fun v9 (u9 : (Nat → Nat → Int) × (Nat → Nat → Int)) => v9 = some (.int (iI (k_X3_law I R v).1)) ∧ u9.1 = (k_X3_law I R v).2.1 ∧ jq u9.2 (k_X3_law I R v).2.2) (fun u9 H => va_P D vwCl (wC cI cS ad u9.1 u9.2) H) := by
  refine JV.mkI rfl (by decide +kernel) rfl (Nat.le_of_ble_eq_true rfl) ?_
  intro p e st mi ar bl mth cd Q ls C hB hl hret
  obtain ⟨hE, hP⟩ := hB
  have hx := C.1
  have hb := C.2.1
  have hl : lv_has ls 3 [(0, .ref (ad 0)), (1, .int (iI (v)))] := hl
  have hin2 : ∀ w ∈ wsX20, w ∈ wsX3_law := fun _ h => List.mem_cons_of_mem _ (List.mem_append_right _ h)
  have hin3 : ∀ w ∈ wsX30, w ∈ wsX3_law := fun _ h => List.mem_cons_of_mem _ (List.mem_append_left _ (List.mem_append_right _ h))
  suffices hgo : ∀ (H : Heap) (lc : List Loc), va_P D vwCl (wC cI cS ad I R) H → va_S A st.heap H lc → W p l e rm_X3_law st mi ar bl mth cd H lc 0 0 Q (F0 mi 0 ls []) from hgo _ _ hP va_S.rf
  clear hP
  intro H lc hP hS
  have hT := hV.town
  have hW := hT.works
  have hK := hT.wards
  have hSt := hV.stands
  have hset := hT.set
  have hset2 := pow_bd hW hset
  have hcel := hT.cells
  have hlaw := hT.law
  have hrd := hT.reads
  have hP8 := pw8 hW
  refine lv_iload_n hx hb dX3_law_0 rfl (lv_at hl 1 rfl) ?_
  refine jz_const C dX3_law_1 ?_
  refine jc_S C hl.1 (jpreS hE hP) (c_X3_isUpTo v 2 (show -2147483648 ≤ v ∧ v < 2147483648 from (by omega)) (show -2147483648 ≤ 2 ∧ 2 < 2147483648 from (by omega))) (va_cwS 2 C.2.2.2.2 gX3_law_X3_isUpTo rfl rfl rfl (by decide +kernel) ⟨Nat.le_of_ble_eq_true rfl, Nat.le_of_ble_eq_true rfl⟩) (As := [.int (iI (v)), .int (iI (2))]) (v := .int (iI (if 0 ≤ v ∧ v ≤ 2 then 1 else 0))) (hn := rfl) (hst := rfl) (rest := []) (hW := Nat.le_of_ble_eq_true rfl) (hdg := dX3_law_2) (hf := ⟨Nat.le_of_ble_eq_true rfl, Nat.le_of_ble_eq_true rfl⟩) ?_
  refine jz_bool_ne (tgt := 11) C dX3_law_5 (by decide) (fun h5 => ?_) (fun h5 => ?_)
  · skip
    refine lv_aload_n hx hb dX3_law_11 rfl (lv_at hl 0 rfl) ?_
    refine fg_V_present C hin3 hE hP (List.mem_of_getElem? (i := 1) rfl) dX3_law_12 ?_
    refine fg_T_stands C hin2 hE hP (v := I 5 9) (List.mem_of_getElem? (i := 2) rfl) dX3_law_15 rfl ?_
    refine jz_if_ne (tgt := 24) C dX3_law_18 (by decide) (by omega) (fun h18 => ?_) (fun h18 => ?_)
    · skip
      refine lv_aload_n hx hb dX3_law_24 rfl (lv_at hl 0 rfl) ?_
      refine fg_V_present C hin3 hE hP (List.mem_of_getElem? (i := 1) rfl) dX3_law_25 ?_
      refine fg_T_lawNow C hin2 hE hP (v := I 5 15) (List.mem_of_getElem? (i := 3) rfl) dX3_law_28 rfl ?_
      refine lv_istore_n (lv' := [(2, .int (iI (I 5 15))), (0, .ref (ad 0)), (1, .int (iI (v)))]) hx hb dX3_law_31 rfl hl (by decide) rfl (fun ls hl => ?_)
      refine lv_aload_n hx hb dX3_law_32 rfl (lv_at hl 1 rfl) ?_
      refine fg_V_present C hin3 hE hP (List.mem_of_getElem? (i := 1) rfl) dX3_law_33 ?_
      refine lv_iload_n hx hb dX3_law_36 rfl (lv_at hl 2 rfl) ?_
      refine fp_T_lawNow C hin2 hE hP (jDC hD) hS (List.mem_of_getElem? (i := 3) rfl) dX3_law_37 (fun H lc hP hS => ?_)
      refine lv_iload_n hx hb dX3_law_40 rfl (lv_at hl 0 rfl) ?_
      have hk9 : k_X3_law I R v = (I 5 15, (u2 I 5 15 v), R) := by rw [k_X3_law, (if_pos h5), (if_neg (h18))]
      exact hret _ ((u2 I 5 15 v), R) _ _ _ _ dX3_law_41 ⟨by rw [hk9], by rw [hk9], by rw [hk9]; exact (fun q h14 h4 => by first | rfl | exact uR_n h14 | exact uR_n h4 | exact (uR_n h14).trans (uR_n h4) | exact (uR_n h4).trans (uR_n h14))⟩ hP hS
    · skip
      refine jz_bipush C dX3_law_21 (by decide +kernel) ?_
      have hk9 : k_X3_law I R v = (-3, I, R) := by rw [k_X3_law, (if_pos h5), (if_pos h18)]
      exact hret _ (I, R) _ _ _ _ dX3_law_23 ⟨by rw [hk9], by rw [hk9], by rw [hk9]; exact (fun q h14 h4 => by first | rfl | exact uR_n h14 | exact uR_n h4 | exact (uR_n h14).trans (uR_n h4) | exact (uR_n h4).trans (uR_n h14))⟩ hP hS
  · skip
    refine jz_bipush C dX3_law_8 (by decide +kernel) ?_
    have hk9 : k_X3_law I R v = (-2, I, R) := by rw [k_X3_law, (if_neg h5)]
    exact hret _ (I, R) _ _ _ _ dX3_law_10 ⟨by rw [hk9], by rw [hk9], by rw [hk9]; exact (fun q h14 h4 => by first | rfl | exact uR_n h14 | exact uR_n h4 | exact (uR_n h14).trans (uR_n h4) | exact (uR_n h4).trans (uR_n h14))⟩ hP hS
def k_X3_turn (I R : Nat → Nat → Int) (w : Int) (v : Int) : Int × (Nat → Nat → Int) × (Nat → Nat → Int) := if 0 ≤ w ∧ w < I 5 13 then (if 0 ≤ v ∧ v ≤ 3 then ((vz (I 5 13) (I 5 16) w, (u2 I 5 16 (tz (I 5 13) (I 5 16) w v)), R)) else ((-2, I, R))) else ((-1, I, R))
abbrev rm_X3_turn : Room := { frames := 1, cells := 0, slots := 0, locals := 24 }
set_option maxHeartbeats 4000000 in
set_option maxRecDepth 100000 in
theorem c_X3_turn {l : Launch} {D : va_G} {cI cS : ClassId} {ad : Nat → Nat} {I R : Nat → Nat → Int} {A : Nat → Prop} (hD : va_D A (wC cI cS ad I R))  (w : Int) (v : Int)  (hV : VI I R) (hr_w : -2147483648 ≤ w ∧ w < 2147483648) (hr_v : -2147483648 ≤ v ∧ v < 2147483648): JV l yX3_turn wsX3_turn rm_X3_turn (jB D cI cS (wC cI cS ad I R)) A [.ref (ad 0), .int (iI (w)), .int (iI (v))] (fun v9 (u9 : (Nat → Nat → Int) × (Nat → Nat → Int)) => v9 = some (.int (iI (k_X3_turn I R w v).1)) ∧ u9.1 = (k_X3_turn I R w v).2.1 ∧ jq u9.2 (k_X3_turn I R w v).2.2) (fun u9 H => va_P D vwCl (wC cI cS ad u9.1 u9.2) H) := by
  refine JV.mkI rfl (by decide +kernel) rfl (Nat.le_of_ble_eq_true rfl) ?_
  intro p e st mi ar bl mth cd Q ls C hB hl hret
  obtain ⟨hE, hP⟩ := hB
  have hx := C.1
  have hb := C.2.1
  have hl : lv_has ls 4 [(0, .ref (ad 0)), (1, .int (iI (w))), (2, .int (iI (v)))] := hl
  have hin2 : ∀ w ∈ wsX20, w ∈ wsX3_turn := fun _ h => List.mem_cons_of_mem _ (List.mem_append_right _ h)
  have hin3 : ∀ w ∈ wsX30, w ∈ wsX3_turn := fun _ h => List.mem_cons_of_mem _ (List.mem_append_left _ (List.mem_append_right _ h))
  suffices hgo : ∀ (H : Heap) (lc : List Loc), va_P D vwCl (wC cI cS ad I R) H → va_S A st.heap H lc → W p l e rm_X3_turn st mi ar bl mth cd H lc 0 0 Q (F0 mi 0 ls []) from hgo _ _ hP va_S.rf
  clear hP
  intro H lc hP hS
  have hT := hV.town
  have hW := hT.works
  have hK := hT.wards
  have hSt := hV.stands
  have hset := hT.set
  have hset2 := pow_bd hW hset
  have hcel := hT.cells
  have hlaw := hT.law
  have hrd := hT.reads
  have hP8 := pw8 hW
  refine lv_aload_n hx hb dX3_turn_0 rfl (lv_at hl 0 rfl) ?_
  refine fg_V_present C hin3 hE hP (List.mem_of_getElem? (i := 1) rfl) dX3_turn_1 ?_
  refine lv_iload_n hx hb dX3_turn_4 rfl (lv_at hl 1 rfl) ?_
  refine jc_V C hl.1 (jpreV hE hP 2 5 rfl rfl) (c_X2_hasWork w (show -2147483648 ≤ w ∧ w < 2147483648 from (by omega)) hT.works) (cwV 1 C.2.2.2.2 gX3_turn_X2_hasWork rfl rfl rfl (by decide +kernel) ⟨Nat.le_of_ble_eq_true rfl, Nat.le_of_ble_eq_true rfl⟩) (As := [.int (iI (w))]) (v := .int (iI (if 0 ≤ w ∧ w < I 5 13 then 1 else 0))) (hn := rfl) (hst := rfl) (rest := []) (hW := Nat.le_of_ble_eq_true rfl) (hdg := dX3_turn_5) (hf := ⟨Nat.le_of_ble_eq_true rfl, Nat.le_of_ble_eq_true rfl⟩) ?_
  refine jz_bool_ne (tgt := 13) C dX3_turn_8 (by decide) (fun h8 => ?_) (fun h8 => ?_)
  · skip
    refine lv_iload_n hx hb dX3_turn_13 rfl (lv_at hl 2 rfl) ?_
    refine jz_const C dX3_turn_14 ?_
    refine jc_S C hl.1 (jpreS hE hP) (c_X3_isUpTo v 3 (show -2147483648 ≤ v ∧ v < 2147483648 from (by omega)) (show -2147483648 ≤ 3 ∧ 3 < 2147483648 from (by omega))) (va_cwS 2 C.2.2.2.2 gX3_turn_X3_isUpTo rfl rfl rfl (by decide +kernel) ⟨Nat.le_of_ble_eq_true rfl, Nat.le_of_ble_eq_true rfl⟩) (As := [.int (iI (v)), .int (iI (3))]) (v := .int (iI (if 0 ≤ v ∧ v ≤ 3 then 1 else 0))) (hn := rfl) (hst := rfl) (rest := []) (hW := Nat.le_of_ble_eq_true rfl) (hdg := dX3_turn_15) (hf := ⟨Nat.le_of_ble_eq_true rfl, Nat.le_of_ble_eq_true rfl⟩) ?_
    refine jz_bool_ne (tgt := 24) C dX3_turn_18 (by decide) (fun h18 => ?_) (fun h18 => ?_)
    · skip
      refine lv_aload_n hx hb dX3_turn_24 rfl (lv_at hl 0 rfl) ?_
      refine fg_V_present C hin3 hE hP (List.mem_of_getElem? (i := 1) rfl) dX3_turn_25 ?_
      refine lv_aload_n hx hb dX3_turn_28 rfl (lv_at hl 0 rfl) ?_
      refine fg_V_present C hin3 hE hP (List.mem_of_getElem? (i := 1) rfl) dX3_turn_29 ?_
      refine fg_T_setting C hin2 hE hP (v := I 5 16) (List.mem_of_getElem? (i := 2) rfl) dX3_turn_32 rfl ?_
      refine lv_iload_n hx hb dX3_turn_35 rfl (lv_at hl 1 rfl) ?_
      refine jc_V C hl.1 (jpreV hE hP 2 5 rfl rfl) (c_X2_vaneIn (I 5 16) w hT.works (show 0 ≤ (I 5 16) ∧ (I 5 16) < 256 from (by omega)) (show 0 ≤ w ∧ w < I 5 13 from (by omega))) (cwV 2 C.2.2.2.2 gX3_turn_X2_vaneIn rfl rfl rfl (by decide +kernel) ⟨Nat.le_of_ble_eq_true rfl, Nat.le_of_ble_eq_true rfl⟩) (As := [.int (iI (I 5 16)), .int (iI (w))]) (v := .int (iI (vz (I 5 13) (I 5 16) w))) (hn := rfl) (hst := rfl) (rest := []) (hW := Nat.le_of_ble_eq_true rfl) (hdg := dX3_turn_36) (hf := ⟨Nat.le_of_ble_eq_true rfl, Nat.le_of_ble_eq_true rfl⟩) ?_
      refine lv_istore_n (lv' := [(3, .int (iI (vz (I 5 13) (I 5 16) w))), (0, .ref (ad 0)), (1, .int (iI (w))), (2, .int (iI (v)))]) hx hb dX3_turn_39 rfl hl (by decide) rfl (fun ls hl => ?_)
      refine lv_aload_n hx hb dX3_turn_40 rfl (lv_at hl 1 rfl) ?_
      refine fg_V_present C hin3 hE hP (List.mem_of_getElem? (i := 1) rfl) dX3_turn_41 ?_
      refine lv_aload_n hx hb dX3_turn_44 rfl (lv_at hl 1 rfl) ?_
      refine fg_V_present C hin3 hE hP (List.mem_of_getElem? (i := 1) rfl) dX3_turn_45 ?_
      refine lv_aload_n hx hb dX3_turn_48 rfl (lv_at hl 1 rfl) ?_
      refine fg_V_present C hin3 hE hP (List.mem_of_getElem? (i := 1) rfl) dX3_turn_49 ?_
      refine fg_T_setting C hin2 hE hP (v := I 5 16) (List.mem_of_getElem? (i := 2) rfl) dX3_turn_52 rfl ?_
      refine lv_iload_n hx hb dX3_turn_55 rfl (lv_at hl 2 rfl) ?_
      refine lv_iload_n hx hb dX3_turn_56 rfl (lv_at hl 3 rfl) ?_
      refine jc_V C hl.1 (jpreV hE hP 2 5 rfl rfl) (c_X2_turned (I 5 16) w v hT.works (show 0 ≤ (I 5 16) ∧ (I 5 16) < 256 from (by omega)) (show 0 ≤ w ∧ w < I 5 13 from (by omega)) (show 0 ≤ v ∧ v < 4 from (by omega))) (cwV 3 C.2.2.2.2 gX3_turn_X2_turned rfl rfl rfl (by decide +kernel) ⟨Nat.le_of_ble_eq_true rfl, Nat.le_of_ble_eq_true rfl⟩) (As := [.int (iI (I 5 16)), .int (iI (w)), .int (iI (v))]) (v := .int (iI (tz (I 5 13) (I 5 16) w v))) (hn := rfl) (hst := rfl) (rest := [.ref (ad 5)]) (hW := Nat.le_of_ble_eq_true rfl) (hdg := dX3_turn_57) (hf := ⟨Nat.le_of_ble_eq_true rfl, Nat.le_of_ble_eq_true rfl⟩) ?_
      refine fp_T_setting C hin2 hE hP (jDC hD) hS (List.mem_of_getElem? (i := 2) rfl) dX3_turn_60 (fun H lc hP hS => ?_)
      refine lv_iload_n hx hb dX3_turn_63 rfl (lv_at hl 0 rfl) ?_
      have hk9 : k_X3_turn I R w v = (vz (I 5 13) (I 5 16) w, (u2 I 5 16 (tz (I 5 13) (I 5 16) w v)), R) := by rw [k_X3_turn, (if_pos h8), (if_pos h18)]
      exact hret _ ((u2 I 5 16 (tz (I 5 13) (I 5 16) w v)), R) _ _ _ _ dX3_turn_64 ⟨by rw [hk9], by rw [hk9], by rw [hk9]; exact (fun q h14 h4 => by first | rfl | exact uR_n h14 | exact uR_n h4 | exact (uR_n h14).trans (uR_n h4) | exact (uR_n h4).trans (uR_n h14))⟩ hP hS
    · skip
      refine jz_bipush C dX3_turn_21 (by decide +kernel) ?_
      have hk9 : k_X3_turn I R w v = (-2, I, R) := by rw [k_X3_turn, (if_pos h8), (if_neg h18)]
      exact hret _ (I, R) _ _ _ _ dX3_turn_23 ⟨by rw [hk9], by rw [hk9], by rw [hk9]; exact (fun q h14 h4 => by first | rfl | exact uR_n h14 | exact uR_n h4 | exact (uR_n h14).trans (uR_n h4) | exact (uR_n h4).trans (uR_n h14))⟩ hP hS
  · skip
    refine jz_const C dX3_turn_11 ?_
    have hk9 : k_X3_turn I R w v = (-1, I, R) := by rw [k_X3_turn, (if_neg h8)]
    exact hret _ (I, R) _ _ _ _ dX3_turn_12 ⟨by rw [hk9], by rw [hk9], by rw [hk9]; exact (fun q h14 h4 => by first | rfl | exact uR_n h14 | exact uR_n h4 | exact (uR_n h14).trans (uR_n h4) | exact (uR_n h4).trans (uR_n h14))⟩ hP hS
def k_X3_smell (I R : Nat → Nat → Int) (c : Int) : Int := if 0 ≤ c ∧ c < I 5 12 then (cs I R (I 5 16) c) else (-1)
abbrev rm_X3_smell : Room := { frames := 2, cells := 0, slots := 0, locals := 50 }
set_option maxHeartbeats 4000000 in
set_option maxRecDepth 100000 in
theorem c_X3_smell {l : Launch} {D : va_G} {cI cS : ClassId} {ad : Nat → Nat} {I R : Nat → Nat → Int}  (c : Int)  (hV : VI I R) (hr_c : -2147483648 ≤ c ∧ c < 2147483648): JS l yX3_smell wsX3_smell rm_X3_smell (jB D cI cS (wC cI cS ad I R)) [.ref (ad 0), .int (iI (c))] (.int (iI (k_X3_smell I R c))) := by
  refine JS.mkI rfl (by decide +kernel) rfl (Nat.le_of_ble_eq_true rfl) ?_
  intro p e st mi ar bl mth cd Q ls C hB hl hret
  obtain ⟨hE, hP⟩ := hB
  have hx := C.1
  have hb := C.2.1
  have hl : lv_has ls 2 [(0, .ref (ad 0)), (1, .int (iI (c)))] := hl
  have hin2 : ∀ w ∈ wsX20, w ∈ wsX3_smell := fun _ h => List.mem_cons_of_mem _ (List.mem_append_right _ h)
  have hin3 : ∀ w ∈ wsX30, w ∈ wsX3_smell := fun _ h => List.mem_cons_of_mem _ (List.mem_append_left _ (List.mem_append_right _ h))
  have hT := hV.town
  have hW := hT.works
  have hK := hT.wards
  have hSt := hV.stands
  have hset := hT.set
  have hset2 := pow_bd hW hset
  have hcel := hT.cells
  have hlaw := hT.law
  have hrd := hT.reads
  have hP8 := pw8 hW
  refine lv_aload_n hx hb dX3_smell_0 rfl (lv_at hl 0 rfl) ?_
  refine fg_V_present C hin3 hE hP (List.mem_of_getElem? (i := 1) rfl) dX3_smell_1 ?_
  refine lv_iload_n hx hb dX3_smell_4 rfl (lv_at hl 1 rfl) ?_
  refine jc_V C hl.1 (jpreV hE hP 2 5 rfl rfl) (c_X2_hasCell c (show -2147483648 ≤ c ∧ c < 2147483648 from (by omega)) hT.cells) (cwV 1 C.2.2.2.2 gX3_smell_X2_hasCell rfl rfl rfl (by decide +kernel) ⟨Nat.le_of_ble_eq_true rfl, Nat.le_of_ble_eq_true rfl⟩) (As := [.int (iI (c))]) (v := .int (iI (if 0 ≤ c ∧ c < I 5 12 then 1 else 0))) (hn := rfl) (hst := rfl) (rest := []) (hW := Nat.le_of_ble_eq_true rfl) (hdg := dX3_smell_5) (hf := ⟨Nat.le_of_ble_eq_true rfl, Nat.le_of_ble_eq_true rfl⟩) ?_
  refine jz_bool_eq (tgt := 29) C dX3_smell_8 (by decide) (fun h8 => ?_) (fun h8 => ?_)
  · skip
    refine jz_const C dX3_smell_29 ?_
    exact jz_ret (show (k_X3_smell I R c : Int) = -1 from by rw [k_X3_smell, (if_neg h8)]) (hret _ _ dX3_smell_30)
  · skip
    refine lv_aload_n hx hb dX3_smell_11 rfl (lv_at hl 0 rfl) ?_
    refine fg_V_present C hin3 hE hP (List.mem_of_getElem? (i := 1) rfl) dX3_smell_12 ?_
    refine lv_aload_n hx hb dX3_smell_15 rfl (lv_at hl 0 rfl) ?_
    refine fg_V_present C hin3 hE hP (List.mem_of_getElem? (i := 1) rfl) dX3_smell_16 ?_
    refine fg_T_setting C hin2 hE hP (v := I 5 16) (List.mem_of_getElem? (i := 2) rfl) dX3_smell_19 rfl ?_
    refine lv_iload_n hx hb dX3_smell_22 rfl (lv_at hl 1 rfl) ?_
    refine jc_V C hl.1 (jpreV hE hP 2 5 rfl rfl) (c_X2_smellBy (I 5 16) c hT (show 0 ≤ (I 5 16) ∧ (I 5 16) < 256 from (by omega)) (show 0 ≤ c ∧ c < 24 from (by omega))) (cwV 2 C.2.2.2.2 gX3_smell_X2_smellBy rfl rfl rfl (by decide +kernel) ⟨Nat.le_of_ble_eq_true rfl, Nat.le_of_ble_eq_true rfl⟩) (As := [.int (iI (I 5 16)), .int (iI (c))]) (v := .int (iI (cs I R (I 5 16) c))) (hn := rfl) (hst := rfl) (rest := []) (hW := Nat.le_of_ble_eq_true rfl) (hdg := dX3_smell_23) (hf := ⟨Nat.le_of_ble_eq_true rfl, Nat.le_of_ble_eq_true rfl⟩) ?_
    refine lv_goto (tgt := 30) hx hb dX3_smell_26 (by decide) ?_
    exact jz_ret (show (k_X3_smell I R c : Int) = cs I R (I 5 16) c from by rw [k_X3_smell, (if_pos h8)]) (hret _ _ dX3_smell_30)
def k_X3_minds (I R : Nat → Nat → Int) (k : Int) : Int := if 0 ≤ k ∧ k < I 5 14 then (mz I R (I 5 16) (Int.toNat k)) else (-1)
abbrev rm_X3_minds : Room := { frames := 3, cells := 0, slots := 0, locals := 72 }
set_option maxHeartbeats 4000000 in
set_option maxRecDepth 100000 in
theorem c_X3_minds {l : Launch} {D : va_G} {cI cS : ClassId} {ad : Nat → Nat} {I R : Nat → Nat → Int}  (k : Int)  (hV : VI I R) (hr_k : -2147483648 ≤ k ∧ k < 2147483648): JS l yX3_minds wsX3_minds rm_X3_minds (jB D cI cS (wC cI cS ad I R)) [.ref (ad 0), .int (iI (k))] (.int (iI (k_X3_minds I R k))) := by
  refine JS.mkI rfl (by decide +kernel) rfl (Nat.le_of_ble_eq_true rfl) ?_
  intro p e st mi ar bl mth cd Q ls C hB hl hret
  obtain ⟨hE, hP⟩ := hB
  have hx := C.1
  have hb := C.2.1
  have hl : lv_has ls 2 [(0, .ref (ad 0)), (1, .int (iI (k)))] := hl
  have hin2 : ∀ w ∈ wsX20, w ∈ wsX3_minds := fun _ h => List.mem_cons_of_mem _ (List.mem_append_right _ h)
  have hin3 : ∀ w ∈ wsX30, w ∈ wsX3_minds := fun _ h => List.mem_cons_of_mem _ (List.mem_append_left _ (List.mem_append_right _ h))
  have hT := hV.town
  have hW := hT.works
  have hK := hT.wards
  have hSt := hV.stands
  have hset := hT.set
  have hset2 := pow_bd hW hset
  have hcel := hT.cells
  have hlaw := hT.law
  have hrd := hT.reads
  have hP8 := pw8 hW
  refine lv_aload_n hx hb dX3_minds_0 rfl (lv_at hl 0 rfl) ?_
  refine fg_V_present C hin3 hE hP (List.mem_of_getElem? (i := 1) rfl) dX3_minds_1 ?_
  refine lv_iload_n hx hb dX3_minds_4 rfl (lv_at hl 1 rfl) ?_
  refine jc_V C hl.1 (jpreV hE hP 2 5 rfl rfl) (c_X2_hasWard k (show -2147483648 ≤ k ∧ k < 2147483648 from (by omega)) hT.wards) (cwV 1 C.2.2.2.2 gX3_minds_X2_hasWard rfl rfl rfl (by decide +kernel) ⟨Nat.le_of_ble_eq_true rfl, Nat.le_of_ble_eq_true rfl⟩) (As := [.int (iI (k))]) (v := .int (iI (if 0 ≤ k ∧ k < I 5 14 then 1 else 0))) (hn := rfl) (hst := rfl) (rest := []) (hW := Nat.le_of_ble_eq_true rfl) (hdg := dX3_minds_5) (hf := ⟨Nat.le_of_ble_eq_true rfl, Nat.le_of_ble_eq_true rfl⟩) ?_
  refine jz_bool_eq (tgt := 29) C dX3_minds_8 (by decide) (fun h8 => ?_) (fun h8 => ?_)
  · skip
    refine jz_const C dX3_minds_29 ?_
    exact jz_ret (show (k_X3_minds I R k : Int) = -1 from by rw [k_X3_minds, (if_neg h8)]) (hret _ _ dX3_minds_30)
  · skip
    refine lv_aload_n hx hb dX3_minds_11 rfl (lv_at hl 0 rfl) ?_
    refine fg_V_present C hin3 hE hP (List.mem_of_getElem? (i := 1) rfl) dX3_minds_12 ?_
    refine lv_aload_n hx hb dX3_minds_15 rfl (lv_at hl 0 rfl) ?_
    refine fg_V_present C hin3 hE hP (List.mem_of_getElem? (i := 1) rfl) dX3_minds_16 ?_
    refine fg_T_setting C hin2 hE hP (v := I 5 16) (List.mem_of_getElem? (i := 2) rfl) dX3_minds_19 rfl ?_
    refine lv_iload_n hx hb dX3_minds_22 rfl (lv_at hl 1 rfl) ?_
    refine jc_V C hl.1 (jpreV hE hP 2 5 rfl rfl) (c_X2_mindedBy (I 5 16) k hT (show 0 ≤ (I 5 16) ∧ (I 5 16) < 256 from (by omega)) (show 0 ≤ k ∧ k < 6 from (by omega))) (cwV 2 C.2.2.2.2 gX3_minds_X2_mindedBy rfl rfl rfl (by decide +kernel) ⟨Nat.le_of_ble_eq_true rfl, Nat.le_of_ble_eq_true rfl⟩) (As := [.int (iI (I 5 16)), .int (iI (k))]) (v := .int (iI (mz I R (I 5 16) (Int.toNat k)))) (hn := rfl) (hst := rfl) (rest := []) (hW := Nat.le_of_ble_eq_true rfl) (hdg := dX3_minds_23) (hf := ⟨Nat.le_of_ble_eq_true rfl, Nat.le_of_ble_eq_true rfl⟩) ?_
    refine lv_goto (tgt := 30) hx hb dX3_minds_26 (by decide) ?_
    exact jz_ret (show (k_X3_minds I R k : Int) = mz I R (I 5 16) (Int.toNat k) from by rw [k_X3_minds, (if_pos h8)]) (hret _ _ dX3_minds_30)
def k_X3_burden (I R : Nat → Nat → Int)  : Int := if (I 5 9) = 0 then (-3) else (su (mz I R (I 5 16)) (Int.toNat (I 5 14)))
abbrev rm_X3_burden : Room := { frames := 4, cells := 0, slots := 0, locals := 95 }
set_option maxHeartbeats 4000000 in
set_option maxRecDepth 100000 in
theorem c_X3_burden {l : Launch} {D : va_G} {cI cS : ClassId} {ad : Nat → Nat} {I R : Nat → Nat → Int}    (hV : VI I R): JS l yX3_burden wsX3_burden rm_X3_burden (jB D cI cS (wC cI cS ad I R)) [.ref (ad 0)] (.int (iI (k_X3_burden I R))) := by
  refine JS.mkI rfl (by decide +kernel) rfl (Nat.le_of_ble_eq_true rfl) ?_
  intro p e st mi ar bl mth cd Q ls C hB hl hret
  obtain ⟨hE, hP⟩ := hB
  have hx := C.1
  have hb := C.2.1
  have hl : lv_has ls 1 [(0, .ref (ad 0))] := hl
  have hin2 : ∀ w ∈ wsX20, w ∈ wsX3_burden := fun _ h => List.mem_cons_of_mem _ (List.mem_append_right _ h)
  have hin3 : ∀ w ∈ wsX30, w ∈ wsX3_burden := fun _ h => List.mem_cons_of_mem _ (List.mem_append_left _ (List.mem_append_right _ h))
  have hT := hV.town
  have hW := hT.works
  have hK := hT.wards
  have hSt := hV.stands
  have hset := hT.set
  have hset2 := pow_bd hW hset
  have hcel := hT.cells
  have hlaw := hT.law
  have hrd := hT.reads
  have hP8 := pw8 hW
  refine lv_aload_n hx hb dX3_burden_0 rfl (lv_at hl 0 rfl) ?_
  refine fg_V_present C hin3 hE hP (List.mem_of_getElem? (i := 1) rfl) dX3_burden_1 ?_
  refine fg_T_stands C hin2 hE hP (v := I 5 9) (List.mem_of_getElem? (i := 2) rfl) dX3_burden_4 rfl ?_
  refine jz_if_eq (tgt := 27) C dX3_burden_7 (by decide) (by omega) (fun h7 => ?_) (fun h7 => ?_)
  · skip
    refine jz_bipush C dX3_burden_27 (by decide +kernel) ?_
    exact jz_ret (show (k_X3_burden I R : Int) = -3 from by rw [k_X3_burden, (if_pos h7)]) (hret _ _ dX3_burden_29)
  · skip
    refine lv_aload_n hx hb dX3_burden_10 rfl (lv_at hl 0 rfl) ?_
    refine fg_V_present C hin3 hE hP (List.mem_of_getElem? (i := 1) rfl) dX3_burden_11 ?_
    refine lv_aload_n hx hb dX3_burden_14 rfl (lv_at hl 0 rfl) ?_
    refine fg_V_present C hin3 hE hP (List.mem_of_getElem? (i := 1) rfl) dX3_burden_15 ?_
    refine fg_T_setting C hin2 hE hP (v := I 5 16) (List.mem_of_getElem? (i := 3) rfl) dX3_burden_18 rfl ?_
    refine jc_V C hl.1 (jpreV hE hP 2 5 rfl rfl) (c_X2_burdenBy (I 5 16) hT (show 0 ≤ (I 5 16) ∧ (I 5 16) < 256 from (by omega))) (cwV 1 C.2.2.2.2 gX3_burden_X2_burdenBy rfl rfl rfl (by decide +kernel) ⟨Nat.le_of_ble_eq_true rfl, Nat.le_of_ble_eq_true rfl⟩) (As := [.int (iI (I 5 16))]) (v := .int (iI (su (mz I R (I 5 16)) (Int.toNat (I 5 14))))) (hn := rfl) (hst := rfl) (rest := []) (hW := Nat.le_of_ble_eq_true rfl) (hdg := dX3_burden_21) (hf := ⟨Nat.le_of_ble_eq_true rfl, Nat.le_of_ble_eq_true rfl⟩) ?_
    refine lv_goto (tgt := 29) hx hb dX3_burden_24 (by decide) ?_
    exact jz_ret (show (k_X3_burden I R : Int) = su (mz I R (I 5 16)) (Int.toNat (I 5 14)) from by rw [k_X3_burden, (if_neg (h7))]) (hret _ _ dX3_burden_29)
def k_X3_vote (I R : Nat → Nat → Int) (k : Int) (w : Int) : Int := if (0 ≤ k ∧ k < I 5 14) ∧ (0 ≤ w ∧ w < I 5 13) then (vo I R (I 5 16) (Int.toNat k) w) else (-1)
abbrev rm_X3_vote : Room := { frames := 4, cells := 0, slots := 0, locals := 99 }
set_option maxHeartbeats 4000000 in
set_option maxRecDepth 100000 in
theorem c_X3_vote {l : Launch} {D : va_G} {cI cS : ClassId} {ad : Nat → Nat} {I R : Nat → Nat → Int}  (k : Int) (w : Int)  (hV : VI I R) (hr_k : -2147483648 ≤ k ∧ k < 2147483648) (hr_w : -2147483648 ≤ w ∧ w < 2147483648): JS l yX3_vote wsX3_vote rm_X3_vote (jB D cI cS (wC cI cS ad I R)) [.ref (ad 0), .int (iI (k)), .int (iI (w))] (.int (iI (k_X3_vote I R k w))) := by
  refine JS.mkI rfl (by decide +kernel) rfl (Nat.le_of_ble_eq_true rfl) ?_
  intro p e st mi ar bl mth cd Q ls C hB hl hret
  obtain ⟨hE, hP⟩ := hB
  have hx := C.1
  have hb := C.2.1
  have hl : lv_has ls 4 [(0, .ref (ad 0)), (1, .int (iI (k))), (2, .int (iI (w)))] := hl
  have hin2 : ∀ w ∈ wsX20, w ∈ wsX3_vote := fun _ h => List.mem_cons_of_mem _ (List.mem_append_right _ h)
  have hin3 : ∀ w ∈ wsX30, w ∈ wsX3_vote := fun _ h => List.mem_cons_of_mem _ (List.mem_append_left _ (List.mem_append_right _ h))
  have hT := hV.town
  have hW := hT.works
  have hK := hT.wards
  have hSt := hV.stands
  have hset := hT.set
  have hset2 := pow_bd hW hset
  have hcel := hT.cells
  have hlaw := hT.law
  have hrd := hT.reads
  have hP8 := pw8 hW
  refine lv_aload_n hx hb dX3_vote_0 rfl (lv_at hl 0 rfl) ?_
  refine fg_V_present C hin3 hE hP (List.mem_of_getElem? (i := 1) rfl) dX3_vote_1 ?_
  refine lv_iload_n hx hb dX3_vote_4 rfl (lv_at hl 1 rfl) ?_
  refine jc_V C hl.1 (jpreV hE hP 2 5 rfl rfl) (c_X2_hasWard k (show -2147483648 ≤ k ∧ k < 2147483648 from (by omega)) hT.wards) (cwV 1 C.2.2.2.2 gX3_vote_X2_hasWard rfl rfl rfl (by decide +kernel) ⟨Nat.le_of_ble_eq_true rfl, Nat.le_of_ble_eq_true rfl⟩) (As := [.int (iI (k))]) (v := .int (iI (if 0 ≤ k ∧ k < I 5 14 then 1 else 0))) (hn := rfl) (hst := rfl) (rest := []) (hW := Nat.le_of_ble_eq_true rfl) (hdg := dX3_vote_5) (hf := ⟨Nat.le_of_ble_eq_true rfl, Nat.le_of_ble_eq_true rfl⟩) ?_
  refine jz_cut (X := ∀ ls : Array Slot, lv_has ls 4 [(0, .ref (ad 0)), (1, .int (iI (k))), (2, .int (iI (w)))] → W p l e rm_X3_vote st mi ar bl mth cd st.heap [] 0 0 Q (F0 mi 27 ls [.int (iI (if (0 ≤ k ∧ k < I 5 14) ∧ (0 ≤ w ∧ w < I 5 13) then 1 else 0))])) (fun ls hl => ?_) (fun hj8 => ?_)
  · skip
    refine lv_istore_n (lv' := [(3, .int (iI (if (0 ≤ k ∧ k < I 5 14) ∧ (0 ≤ w ∧ w < I 5 13) then 1 else 0))), (0, .ref (ad 0)), (1, .int (iI (k))), (2, .int (iI (w)))]) hx hb dX3_vote_27 rfl hl (by decide) rfl (fun ls hl => ?_)
    refine lv_iload_n hx hb dX3_vote_28 rfl (lv_at hl 0 rfl) ?_
    refine jz_bool_eq (tgt := 51) C dX3_vote_29 (by decide) (fun h29 => ?_) (fun h29 => ?_)
    · skip
      refine jz_const C dX3_vote_51 ?_
      exact jz_ret (show (k_X3_vote I R k w : Int) = -1 from by rw [k_X3_vote, (if_neg h29)]) (hret _ _ dX3_vote_52)
    · skip
      refine lv_aload_n hx hb dX3_vote_32 rfl (lv_at hl 1 rfl) ?_
      refine fg_V_present C hin3 hE hP (List.mem_of_getElem? (i := 1) rfl) dX3_vote_33 ?_
      refine lv_aload_n hx hb dX3_vote_36 rfl (lv_at hl 1 rfl) ?_
      refine fg_V_present C hin3 hE hP (List.mem_of_getElem? (i := 1) rfl) dX3_vote_37 ?_
      refine fg_T_setting C hin2 hE hP (v := I 5 16) (List.mem_of_getElem? (i := 2) rfl) dX3_vote_40 rfl ?_
      refine lv_iload_n hx hb dX3_vote_43 rfl (lv_at hl 2 rfl) ?_
      refine lv_iload_n hx hb dX3_vote_44 rfl (lv_at hl 3 rfl) ?_
      refine jc_V C hl.1 (jpreV hE hP 2 5 rfl rfl) (c_X2_voteBy (I 5 16) k w hT (by first | assumption | exact hT.set | omega) (by omega) (show 0 ≤ w ∧ w < I 5 13 from (by omega))) (cwV 3 C.2.2.2.2 gX3_vote_X2_voteBy rfl rfl rfl (by decide +kernel) ⟨Nat.le_of_ble_eq_true rfl, Nat.le_of_ble_eq_true rfl⟩) (As := [.int (iI (I 5 16)), .int (iI (k)), .int (iI (w))]) (v := .int (iI (vo I R (I 5 16) (Int.toNat k) w))) (hn := rfl) (hst := rfl) (rest := []) (hW := Nat.le_of_ble_eq_true rfl) (hdg := dX3_vote_45) (hf := ⟨Nat.le_of_ble_eq_true rfl, Nat.le_of_ble_eq_true rfl⟩) ?_
      refine lv_goto (tgt := 52) hx hb dX3_vote_48 (by decide) ?_
      exact jz_ret (show (k_X3_vote I R k w : Int) = vo I R (I 5 16) (Int.toNat k) w from by rw [k_X3_vote, (if_pos h29)]) (hret _ _ dX3_vote_52)
  · skip
    refine jz_bool_eq (tgt := 26) C dX3_vote_8 (by decide) (fun h8 => ?_) (fun h8 => ?_)
    · skip
      refine jz_const C dX3_vote_26 ?_
      have hl9 : lv_has ls 4 [(0, .ref (ad 0)), (1, .int (iI (k))), (2, .int (iI (w)))] := lv_sub hl [0, 1, 2] rfl
      have hj9 := hj8 ls hl9
      rw [show ((if (0 ≤ k ∧ k < I 5 14) ∧ (0 ≤ w ∧ w < I 5 13) then 1 else 0) : Int) = 0 from by first | exact if_pos ⟨by assumption, by assumption⟩ | exact if_neg (fun q => by have := q.1; have := q.2; contradiction)] at hj9
      exact hj9
    · skip
      refine lv_aload_n hx hb dX3_vote_11 rfl (lv_at hl 0 rfl) ?_
      refine fg_V_present C hin3 hE hP (List.mem_of_getElem? (i := 1) rfl) dX3_vote_12 ?_
      refine lv_iload_n hx hb dX3_vote_15 rfl (lv_at hl 2 rfl) ?_
      refine jc_V C hl.1 (jpreV hE hP 2 5 rfl rfl) (c_X2_hasWork w (show -2147483648 ≤ w ∧ w < 2147483648 from (by omega)) hT.works) (cwV 1 C.2.2.2.2 gX3_vote_X2_hasWork rfl rfl rfl (by decide +kernel) ⟨Nat.le_of_ble_eq_true rfl, Nat.le_of_ble_eq_true rfl⟩) (As := [.int (iI (w))]) (v := .int (iI (if 0 ≤ w ∧ w < I 5 13 then 1 else 0))) (hn := rfl) (hst := rfl) (rest := []) (hW := Nat.le_of_ble_eq_true rfl) (hdg := dX3_vote_16) (hf := ⟨Nat.le_of_ble_eq_true rfl, Nat.le_of_ble_eq_true rfl⟩) ?_
      refine jz_bool_eq (tgt := 26) C dX3_vote_19 (by decide) (fun h19 => ?_) (fun h19 => ?_)
      · skip
        refine jz_const C dX3_vote_26 ?_
        have hl9 : lv_has ls 4 [(0, .ref (ad 0)), (1, .int (iI (k))), (2, .int (iI (w)))] := lv_sub hl [0, 1, 2] rfl
        have hj9 := hj8 ls hl9
        rw [show ((if (0 ≤ k ∧ k < I 5 14) ∧ (0 ≤ w ∧ w < I 5 13) then 1 else 0) : Int) = 0 from by first | exact if_pos ⟨by assumption, by assumption⟩ | exact if_neg (fun q => by have := q.1; have := q.2; contradiction)] at hj9
        exact hj9
      · skip
        refine jz_const C dX3_vote_22 ?_
        refine lv_goto (tgt := 27) hx hb dX3_vote_23 (by decide) ?_
        have hl9 : lv_has ls 4 [(0, .ref (ad 0)), (1, .int (iI (k))), (2, .int (iI (w)))] := lv_sub hl [0, 1, 2] rfl
        have hj9 := hj8 ls hl9
        rw [show ((if (0 ≤ k ∧ k < I 5 14) ∧ (0 ≤ w ∧ w < I 5 13) then 1 else 0) : Int) = 1 from by first | exact if_pos ⟨by assumption, by assumption⟩ | exact if_neg (fun q => by have := q.1; have := q.2; contradiction)] at hj9
        exact hj9
def k_X3_ballot (I R : Nat → Nat → Int) (w : Int) : Int × (Nat → Nat → Int) × (Nat → Nat → Int) := if 0 ≤ w ∧ w < I 5 13 then ((wi (fun k : Nat => vo I R (I 5 16) k w) (Int.toNat (I 5 14)), I, R)) else ((-1, I, R))
abbrev rm_X3_ballot : Room := { frames := 6, cells := 0, slots := 0, locals := 144 }
set_option maxHeartbeats 4000000 in
set_option maxRecDepth 100000 in
theorem c_X3_ballot {l : Launch} {D : va_G} {cI cS : ClassId} {ad : Nat → Nat} {I R : Nat → Nat → Int} {A : Nat → Prop} (hD : va_D A (wC cI cS ad I R))  (w : Int)  (hV : VI I R) (hr_w : -2147483648 ≤ w ∧ w < 2147483648): JV l yX3_ballot wsX3_ballot rm_X3_ballot (jB D cI cS (wC cI cS ad I R)) A [.ref (ad 0), .int (iI (w))] (fun v9 (u9 : (Nat → Nat → Int) × (Nat → Nat → Int)) => v9 = some (.int (iI (k_X3_ballot I R w).1)) ∧ u9.1 = (k_X3_ballot I R w).2.1 ∧ jq u9.2 (k_X3_ballot I R w).2.2) (fun u9 H => va_P D vwCl (wC cI cS ad u9.1 u9.2) H) := by
  refine JV.mkI rfl (by decide +kernel) rfl (Nat.le_of_ble_eq_true rfl) ?_
  intro p e st mi ar bl mth cd Q ls C hB hl hret
  obtain ⟨hE, hP⟩ := hB
  have hx := C.1
  have hb := C.2.1
  have hl : lv_has ls 2 [(0, .ref (ad 0)), (1, .int (iI (w)))] := hl
  have hin2 : ∀ w ∈ wsX20, w ∈ wsX3_ballot := fun _ h => List.mem_cons_of_mem _ (List.mem_append_right _ h)
  have hin3 : ∀ w ∈ wsX30, w ∈ wsX3_ballot := fun _ h => List.mem_cons_of_mem _ (List.mem_append_left _ (List.mem_append_right _ h))
  suffices hgo : ∀ (H : Heap) (lc : List Loc), va_P D vwCl (wC cI cS ad I R) H → va_S A st.heap H lc → W p l e rm_X3_ballot st mi ar bl mth cd H lc 0 0 Q (F0 mi 0 ls []) from hgo _ _ hP va_S.rf
  clear hP
  intro H lc hP hS
  have hT := hV.town
  have hW := hT.works
  have hK := hT.wards
  have hSt := hV.stands
  have hset := hT.set
  have hset2 := pow_bd hW hset
  have hcel := hT.cells
  have hlaw := hT.law
  have hrd := hT.reads
  have hP8 := pw8 hW
  refine lv_aload_n hx hb dX3_ballot_0 rfl (lv_at hl 0 rfl) ?_
  refine fg_V_present C hin3 hE hP (List.mem_of_getElem? (i := 1) rfl) dX3_ballot_1 ?_
  refine lv_iload_n hx hb dX3_ballot_4 rfl (lv_at hl 1 rfl) ?_
  refine jc_V C hl.1 (jpreV hE hP 2 5 rfl rfl) (c_X2_hasWork w (show -2147483648 ≤ w ∧ w < 2147483648 from (by omega)) hT.works) (cwV 1 C.2.2.2.2 gX3_ballot_X2_hasWork rfl rfl rfl (by decide +kernel) ⟨Nat.le_of_ble_eq_true rfl, Nat.le_of_ble_eq_true rfl⟩) (As := [.int (iI (w))]) (v := .int (iI (if 0 ≤ w ∧ w < I 5 13 then 1 else 0))) (hn := rfl) (hst := rfl) (rest := []) (hW := Nat.le_of_ble_eq_true rfl) (hdg := dX3_ballot_5) (hf := ⟨Nat.le_of_ble_eq_true rfl, Nat.le_of_ble_eq_true rfl⟩) ?_
  refine jz_bool_eq (tgt := 29) C dX3_ballot_8 (by decide) (fun h8 => ?_) (fun h8 => ?_)
  · skip
    refine jz_const C dX3_ballot_29 ?_
    have hk9 : k_X3_ballot I R w = (-1, I, R) := by rw [k_X3_ballot, (if_neg h8)]
    exact hret _ (I, R) _ _ _ _ dX3_ballot_30 ⟨by rw [hk9], by rw [hk9], by rw [hk9]; exact (fun q h14 h4 => by first | rfl | exact uR_n h14 | exact uR_n h4 | exact (uR_n h14).trans (uR_n h4) | exact (uR_n h4).trans (uR_n h14))⟩ hP hS
  · skip
    refine lv_aload_n hx hb dX3_ballot_11 rfl (lv_at hl 0 rfl) ?_
    refine fg_V_present C hin3 hE hP (List.mem_of_getElem? (i := 1) rfl) dX3_ballot_12 ?_
    refine lv_aload_n hx hb dX3_ballot_15 rfl (lv_at hl 0 rfl) ?_
    refine fg_V_present C hin3 hE hP (List.mem_of_getElem? (i := 1) rfl) dX3_ballot_16 ?_
    refine fg_T_setting C hin2 hE hP (v := I 5 16) (List.mem_of_getElem? (i := 2) rfl) dX3_ballot_19 rfl ?_
    refine lv_iload_n hx hb dX3_ballot_22 rfl (lv_at hl 1 rfl) ?_
    refine jw_V C hl.1 (jpreV hE hP 2 5 rfl rfl) (c_X2_ballotBy (A := A) (jDC hD) (I 5 16) w hT (by first | assumption | exact hT.set | omega) (show 0 ≤ w ∧ w < I 5 13 from (by omega))) (cwV 2 C.2.2.2.2 gX3_ballot_X2_ballotBy rfl rfl rfl (by decide +kernel) ⟨Nat.le_of_ble_eq_true rfl, Nat.le_of_ble_eq_true rfl⟩) (As := [.int (iI (I 5 16)), .int (iI (w))]) (hn := rfl) (hst := rfl) (rest := []) (hW := Nat.le_of_ble_eq_true rfl) (hdg := dX3_ballot_23) (hf := ⟨Nat.le_of_ble_eq_true rfl, Nat.le_of_ble_eq_true rfl⟩) hS (fun v9 uq23 H lc hq9 hP hS => ?_)
    obtain rfl : v9 = some (.int (iI (wi (fun k : Nat => vo I R (I 5 16) k w) (Int.toNat (I 5 14))))) := by first | exact hq9 | (rw [hq9, ye_jq (R := R) (R' := R) (by intro q h14 h4; simp only [uR_n h14, uR_n h4])])
    have hP : va_P D vwCl (wC cI cS ad I (uR R 14 (cv I R (I 5 16) w (Int.toNat (I 5 14)) (R 14)))) H := hP
    refine lv_goto (tgt := 30) hx hb dX3_ballot_26 (by decide) ?_
    have hk9 : k_X3_ballot I R w = (wi (fun k : Nat => vo I R (I 5 16) k w) (Int.toNat (I 5 14)), I, R) := by rw [k_X3_ballot, (if_pos h8)]
    exact hret _ (I, (uR R 14 (cv I R (I 5 16) w (Int.toNat (I 5 14)) (R 14)))) _ _ _ _ dX3_ballot_30 ⟨by rw [hk9], by rw [hk9], by rw [hk9]; exact (fun q h14 h4 => by first | rfl | exact uR_n h14 | exact uR_n h4 | exact (uR_n h14).trans (uR_n h4) | exact (uR_n h4).trans (uR_n h14))⟩ hP hS
def k_X3_year (I R : Nat → Nat → Int)  : Int × (Nat → Nat → Int) × (Nat → Nat → Int) := if (I 5 9) = 0 then ((-3, I, R)) else ((tcn (I 5 13) (I 5 16) (ye I R (I 5 16) (Int.toNat (I 5 13))) (Int.toNat (I 5 13)), (u2 I 5 16 (ye I R (I 5 16) (Int.toNat (I 5 13)))), R))
abbrev rm_X3_year : Room := { frames := 6, cells := 0, slots := 0, locals := 145 }
set_option maxHeartbeats 4000000 in
set_option maxRecDepth 100000 in
theorem c_X3_year {l : Launch} {D : va_G} {cI cS : ClassId} {ad : Nat → Nat} {I R : Nat → Nat → Int} {A : Nat → Prop} (hD : va_D A (wC cI cS ad I R))    (hV : VI I R): JV l yX3_year wsX3_year rm_X3_year (jB D cI cS (wC cI cS ad I R)) A [.ref (ad 0)] (fun v9 (u9 : (Nat → Nat → Int) × (Nat → Nat → Int)) => v9 = some (.int (iI (k_X3_year I R).1)) ∧ u9.1 = (k_X3_year I R).2.1 ∧ jq u9.2 (k_X3_year I R).2.2) (fun u9 H => va_P D vwCl (wC cI cS ad u9.1 u9.2) H) := by
  refine JV.mkI rfl (by decide +kernel) rfl (Nat.le_of_ble_eq_true rfl) ?_
  intro p e st mi ar bl mth cd Q ls C hB hl hret
  obtain ⟨hE, hP⟩ := hB
  have hx := C.1
  have hb := C.2.1
  have hl : lv_has ls 4 [(0, .ref (ad 0))] := hl
  have hin2 : ∀ w ∈ wsX20, w ∈ wsX3_year := fun _ h => List.mem_cons_of_mem _ (List.mem_append_right _ h)
  have hin3 : ∀ w ∈ wsX30, w ∈ wsX3_year := fun _ h => List.mem_cons_of_mem _ (List.mem_append_left _ (List.mem_append_right _ h))
  suffices hgo : ∀ (H : Heap) (lc : List Loc), va_P D vwCl (wC cI cS ad I R) H → va_S A st.heap H lc → W p l e rm_X3_year st mi ar bl mth cd H lc 0 0 Q (F0 mi 0 ls []) from hgo _ _ hP va_S.rf
  clear hP
  intro H lc hP hS
  have hT := hV.town
  have hW := hT.works
  have hK := hT.wards
  have hSt := hV.stands
  have hset := hT.set
  have hset2 := pow_bd hW hset
  have hcel := hT.cells
  have hlaw := hT.law
  have hrd := hT.reads
  have hP8 := pw8 hW
  refine lv_aload_n hx hb dX3_year_0 rfl (lv_at hl 0 rfl) ?_
  refine fg_V_present C hin3 hE hP (List.mem_of_getElem? (i := 1) rfl) dX3_year_1 ?_
  refine fg_T_stands C hin2 hE hP (v := I 5 9) (List.mem_of_getElem? (i := 2) rfl) dX3_year_4 rfl ?_
  refine jz_if_ne (tgt := 13) C dX3_year_7 (by decide) (by omega) (fun h7 => ?_) (fun h7 => ?_)
  · skip
    refine lv_aload_n hx hb dX3_year_13 rfl (lv_at hl 0 rfl) ?_
    refine fg_V_present C hin3 hE hP (List.mem_of_getElem? (i := 1) rfl) dX3_year_14 ?_
    refine fg_T_setting C hin2 hE hP (v := I 5 16) (List.mem_of_getElem? (i := 3) rfl) dX3_year_17 rfl ?_
    refine lv_istore_n (lv' := [(1, .int (iI (I 5 16))), (0, .ref (ad 0))]) hx hb dX3_year_20 rfl hl (by decide) rfl (fun ls hl => ?_)
    refine lv_aload_n hx hb dX3_year_21 rfl (lv_at hl 1 rfl) ?_
    refine fg_V_present C hin3 hE hP (List.mem_of_getElem? (i := 1) rfl) dX3_year_22 ?_
    refine lv_aload_n hx hb dX3_year_25 rfl (lv_at hl 1 rfl) ?_
    refine fg_V_present C hin3 hE hP (List.mem_of_getElem? (i := 1) rfl) dX3_year_26 ?_
    refine lv_iload_n hx hb dX3_year_29 rfl (lv_at hl 0 rfl) ?_
    refine jw_V C hl.1 (jpreV hE hP 2 5 rfl rfl) (c_X2_yearAfter (A := A) (jDC hD) (I 5 16) hT (by first | assumption | exact hT.set | omega)) (cwV 1 C.2.2.2.2 gX3_year_X2_yearAfter rfl rfl rfl (by decide +kernel) ⟨Nat.le_of_ble_eq_true rfl, Nat.le_of_ble_eq_true rfl⟩) (As := [.int (iI (I 5 16))]) (hn := rfl) (hst := rfl) (rest := [.ref (ad 5)]) (hW := Nat.le_of_ble_eq_true rfl) (hdg := dX3_year_30) (hf := ⟨Nat.le_of_ble_eq_true rfl, Nat.le_of_ble_eq_true rfl⟩) hS (fun v9 uq30 H lc hq9 hP hS => ?_)
    obtain rfl : v9 = some (.int (iI (ye I R (I 5 16) (Int.toNat (I 5 13))))) := by first | exact hq9 | (rw [hq9, ye_jq (R := R) (R' := R) (by intro q h14 h4; simp only [uR_n h14, uR_n h4])])
    have hP : va_P D vwCl (wC cI cS ad I (uR R 14 uq30)) H := hP
    refine fp_T_setting C hin2 hE hP (jDC hD) hS (List.mem_of_getElem? (i := 3) rfl) dX3_year_33 (fun H lc hP hS => ?_)
    have hye := ye_bd hT hset (Int.toNat (I 5 13)) (by omega)
    have hye2 := pow_bd hW hye
    refine jz_const C dX3_year_36 ?_
    refine lv_istore_n (lv' := [(2, .int (iI (0))), (1, .int (iI (I 5 16))), (0, .ref (ad 0))]) hx hb dX3_year_37 rfl hl (by decide) rfl (fun ls hl => ?_)
    refine jz_const C dX3_year_38 ?_
    refine lv_istore_n (lv' := [(3, .int (iI (0))), (2, .int (iI (0))), (1, .int (iI (I 5 16))), (0, .ref (ad 0))]) hx hb dX3_year_39 rfl hl (by decide) rfl (fun ls hl => ?_)
    have key40 : ∀ (n40 : Nat) (w : Nat) (hw : (w : Int) ≤ I 5 13), (I 5 13 - w : Int) < n40 → ∀ (H : Heap) (lc : List Loc), va_P D vwCl (wC cI cS ad (u2 I 5 16 (ye I R (I 5 16) (Int.toNat (I 5 13)))) (uR R 14 uq30)) H → va_S A st.heap H lc → ∀ (ls : Array Slot), lv_has ls 4 [(3, .int (iI ((w : Int)))), (2, .int (iI (tcn (I 5 13) (I 5 16) (ye I R (I 5 16) (Int.toNat (I 5 13))) w))), (1, .int (iI (I 5 16))), (0, .ref (ad 0))] → W p l e rm_X3_year st mi ar bl mth cd H lc 0 0 Q (F0 mi 40 ls []) := by
      intro n40
      induction n40 with
      | zero => intro w hw hn9; exfalso; omega
      | succ n40 ih40 =>
        intro w hw hn9 H lc hP hS ls hl
        refine lv_iload_n hx hb dX3_year_40 rfl (lv_at hl 0 rfl) ?_
        refine lv_aload_n hx hb dX3_year_41 rfl (lv_at hl 3 rfl) ?_
        refine fg_V_present C hin3 hE hP (List.mem_of_getElem? (i := 1) rfl) dX3_year_42 ?_
        refine fg_T_works C hin2 hE hP (v := I 5 13) (List.mem_of_getElem? (i := 4) rfl) dX3_year_45 rfl ?_
        refine jz_icmp_ge (tgt := 87) C dX3_year_48 (by decide) (by omega) (fun h48 => ?_) (fun h48 => ?_)
        · skip
          have hg9 : w = Int.toNat (I 5 13) := (by omega)
          subst hg9
          have hl : lv_has ls 4 [(2, .int (iI (tcn (I 5 13) (I 5 16) (ye I R (I 5 16) (Int.toNat (I 5 13))) (Int.toNat (I 5 13))))), (1, .int (iI (I 5 16))), (0, .ref (ad 0))] := lv_sub hl [1, 2, 3] rfl
          refine lv_iload_n hx hb dX3_year_87 rfl (lv_at hl 0 rfl) ?_
          have hk9 : k_X3_year I R = (tcn (I 5 13) (I 5 16) (ye I R (I 5 16) (Int.toNat (I 5 13))) (Int.toNat (I 5 13)), (u2 I 5 16 (ye I R (I 5 16) (Int.toNat (I 5 13)))), R) := by rw [k_X3_year, (if_neg (h7))]
          exact hret _ ((u2 I 5 16 (ye I R (I 5 16) (Int.toNat (I 5 13)))), (uR R 14 uq30)) _ _ _ _ dX3_year_88 ⟨by rw [hk9], by rw [hk9], by rw [hk9]; exact (fun q h14 h4 => by first | rfl | exact uR_n h14 | exact uR_n h4 | exact (uR_n h14).trans (uR_n h4) | exact (uR_n h4).trans (uR_n h14))⟩ hP hS
        · skip
          have htc := tcn_bd (n := I 5 13) (a := I 5 16) (b := ye I R (I 5 16) (Int.toNat (I 5 13))) (w := w)
          have hv1 := vz_bd (I 5 13) (I 5 16) w
          have hv2 := vz_bd (I 5 13) (ye I R (I 5 16) (Int.toNat (I 5 13))) w
          refine lv_aload_n hx hb dX3_year_51 rfl (lv_at hl 3 rfl) ?_
          refine fg_V_present C hin3 hE hP (List.mem_of_getElem? (i := 1) rfl) dX3_year_52 ?_
          refine lv_iload_n hx hb dX3_year_55 rfl (lv_at hl 2 rfl) ?_
          refine lv_iload_n hx hb dX3_year_56 rfl (lv_at hl 0 rfl) ?_
          refine jc_V C hl.1 (jpreV hE hP 2 5 rfl rfl) (c_X2_vaneIn (I 5 16) (w : Int) hT.works (show 0 ≤ (I 5 16) ∧ (I 5 16) < 256 from (by omega)) (show 0 ≤ (w : Int) ∧ (w : Int) < I 5 13 from (by omega))) (cwV 2 C.2.2.2.2 gX3_year_X2_vaneIn rfl rfl rfl (by decide +kernel) ⟨Nat.le_of_ble_eq_true rfl, Nat.le_of_ble_eq_true rfl⟩) (As := [.int (iI (I 5 16)), .int (iI ((w : Int)))]) (v := .int (iI (vz (I 5 13) (I 5 16) (w : Int)))) (hn := rfl) (hst := rfl) (rest := []) (hW := Nat.le_of_ble_eq_true rfl) (hdg := dX3_year_57) (hf := ⟨Nat.le_of_ble_eq_true rfl, Nat.le_of_ble_eq_true rfl⟩) ?_
          refine lv_aload_n hx hb dX3_year_60 rfl (lv_at hl 3 rfl) ?_
          refine fg_V_present C hin3 hE hP (List.mem_of_getElem? (i := 1) rfl) dX3_year_61 ?_
          refine lv_aload_n hx hb dX3_year_64 rfl (lv_at hl 3 rfl) ?_
          refine fg_V_present C hin3 hE hP (List.mem_of_getElem? (i := 1) rfl) dX3_year_65 ?_
          refine fg_T_setting C hin2 hE hP (v := ye I R (I 5 16) (Int.toNat (I 5 13))) (List.mem_of_getElem? (i := 3) rfl) dX3_year_68 rfl ?_
          refine lv_iload_n hx hb dX3_year_71 rfl (lv_at hl 0 rfl) ?_
          refine jc_V C hl.1 (jpreV hE hP 2 5 rfl rfl) (c_X2_vaneIn (ye I R (I 5 16) (Int.toNat (I 5 13))) (w : Int) hT.works (show 0 ≤ (ye I R (I 5 16) (Int.toNat (I 5 13))) ∧ (ye I R (I 5 16) (Int.toNat (I 5 13))) < 256 from (by omega)) (show 0 ≤ (w : Int) ∧ (w : Int) < I 5 13 from (by omega))) (cwV 2 C.2.2.2.2 gX3_year_X2_vaneIn rfl rfl rfl (by decide +kernel) ⟨Nat.le_of_ble_eq_true rfl, Nat.le_of_ble_eq_true rfl⟩) (As := [.int (iI (ye I R (I 5 16) (Int.toNat (I 5 13)))), .int (iI ((w : Int)))]) (v := .int (iI (vz (I 5 13) (ye I R (I 5 16) (Int.toNat (I 5 13))) (w : Int)))) (hn := rfl) (hst := rfl) (rest := [.int (iI (vz (I 5 13) (I 5 16) (w : Int)))]) (hW := Nat.le_of_ble_eq_true rfl) (hdg := dX3_year_72) (hf := ⟨Nat.le_of_ble_eq_true rfl, Nat.le_of_ble_eq_true rfl⟩) ?_
          refine jz_icmp_eq (tgt := 81) C dX3_year_75 (by decide) (by omega) (fun h75 => ?_) (fun h75 => ?_)
          · skip
            refine jz_iinc (k := 0) (z := (w : Int) + 1) (lv' := [(3, .int (iI ((w : Int) + 1))), (2, .int (iI (tcn (I 5 13) (I 5 16) (ye I R (I 5 16) (Int.toNat (I 5 13))) w))), (1, .int (iI (I 5 16))), (0, .ref (ad 0))]) C dX3_year_81 hl rfl rfl (by decide) rfl (fun ls hl => ?_)
            refine lv_goto (tgt := 40) hx hb dX3_year_84 (by decide) ?_
            have hl9 : lv_has ls 4 [(3, .int (iI ((w + 1 : Int)))), (2, .int (iI (tcn (I 5 13) (I 5 16) (ye I R (I 5 16) (Int.toNat (I 5 13))) (w + 1)))), (1, .int (iI (I 5 16))), (0, .ref (ad 0))] := by
              rw [show (tcn (I 5 13) (I 5 16) (ye I R (I 5 16) (Int.toNat (I 5 13))) (w + 1) : Int) = tcn (I 5 13) (I 5 16) (ye I R (I 5 16) (Int.toNat (I 5 13))) w from by first | rw [tcn_t h75] | rw [tcn_f h75]]
              exact lv_sub hl [0, 1, 2, 3] rfl
            exact ih40 (w + 1) (by omega) (by omega) _ _ hP hS ls hl9
          · skip
            refine jz_iinc (k := 1) (z := tcn (I 5 13) (I 5 16) (ye I R (I 5 16) (Int.toNat (I 5 13))) w + 1) (lv' := [(2, .int (iI (tcn (I 5 13) (I 5 16) (ye I R (I 5 16) (Int.toNat (I 5 13))) w + 1))), (3, .int (iI ((w : Int)))), (1, .int (iI (I 5 16))), (0, .ref (ad 0))]) C dX3_year_78 hl rfl rfl (by decide) rfl (fun ls hl => ?_)
            refine jz_iinc (k := 1) (z := (w : Int) + 1) (lv' := [(3, .int (iI ((w : Int) + 1))), (2, .int (iI (tcn (I 5 13) (I 5 16) (ye I R (I 5 16) (Int.toNat (I 5 13))) w + 1))), (1, .int (iI (I 5 16))), (0, .ref (ad 0))]) C dX3_year_81 hl rfl rfl (by decide) rfl (fun ls hl => ?_)
            refine lv_goto (tgt := 40) hx hb dX3_year_84 (by decide) ?_
            have hl9 : lv_has ls 4 [(3, .int (iI ((w + 1 : Int)))), (2, .int (iI (tcn (I 5 13) (I 5 16) (ye I R (I 5 16) (Int.toNat (I 5 13))) (w + 1)))), (1, .int (iI (I 5 16))), (0, .ref (ad 0))] := by
              rw [show (tcn (I 5 13) (I 5 16) (ye I R (I 5 16) (Int.toNat (I 5 13))) (w + 1) : Int) = tcn (I 5 13) (I 5 16) (ye I R (I 5 16) (Int.toNat (I 5 13))) w + 1 from by first | rw [tcn_t h75] | rw [tcn_f h75]]
              exact lv_sub hl [0, 1, 2, 3] rfl
            exact ih40 (w + 1) (by omega) (by omega) _ _ hP hS ls hl9
    exact key40 (Int.toNat (I 5 13 - 0) + 1) 0 (by omega) (by omega) _ _ hP hS ls (lv_sub hl [0, 1, 2, 3] rfl)
  · skip
    refine jz_bipush C dX3_year_10 (by decide +kernel) ?_
    have hk9 : k_X3_year I R = (-3, I, R) := by rw [k_X3_year, (if_pos h7)]
    exact hret _ (I, R) _ _ _ _ dX3_year_12 ⟨by rw [hk9], by rw [hk9], by rw [hk9]; exact (fun q h14 h4 => by first | rfl | exact uR_n h14 | exact uR_n h4 | exact (uR_n h14).trans (uR_n h4) | exact (uR_n h4).trans (uR_n h14))⟩ hP hS
def k_X3_leastBy_b (I R : Nat → Nat → Int) (w : Int) : Int := if w < (-1) then (-1) else (if (I 5 9) = 0 then (-3) else (if w = (-1) then (su (mz I R ((am (fun t : Nat => su (mz I R (t : Int)) (Int.toNat (I 5 14))) (2 ^ (Int.toNat (2 * I 5 13)))).1)) (Int.toNat (I 5 14))) else (if 0 ≤ w ∧ w < I 5 13 then vz (I 5 13) ((am (fun t : Nat => su (mz I R (t : Int)) (Int.toNat (I 5 14))) (2 ^ (Int.toNat (2 * I 5 13)))).1) w else -9)))
abbrev rm_X3_leastBy_b : Room := { frames := 5, cells := 0, slots := 0, locals := 120 }
set_option maxHeartbeats 4000000 in
set_option maxRecDepth 100000 in
theorem c_X3_leastBy_b {l : Launch} {D : va_G} {cI cS : ClassId} {ad : Nat → Nat} {I R : Nat → Nat → Int}  (w : Int)  (hV : VI I R) (hr_w : -2147483648 ≤ w ∧ w < 2147483648): JS l yX3_leastBy wsX3_leastBy rm_X3_leastBy_b (jB D cI cS (wC cI cS ad I R)) [.ref (ad 0), .int (iI (w)), .int (iI (0))] (.int (iI (k_X3_leastBy_b I R w))) := by
  refine JS.mkI rfl (by decide +kernel) rfl (Nat.le_of_ble_eq_true rfl) ?_
  intro p e st mi ar bl mth cd Q ls C hB hl hret
  obtain ⟨hE, hP⟩ := hB
  have hx := C.1
  have hb := C.2.1
  have hl : lv_has ls 4 [(0, .ref (ad 0)), (1, .int (iI (w))), (2, .int (iI (0)))] := hl
  have hin2 : ∀ w ∈ wsX20, w ∈ wsX3_leastBy := fun _ h => List.mem_cons_of_mem _ (List.mem_append_right _ h)
  have hin3 : ∀ w ∈ wsX30, w ∈ wsX3_leastBy := fun _ h => List.mem_cons_of_mem _ (List.mem_append_left _ (List.mem_append_right _ h))
  have hT := hV.town
  have hW := hT.works
  have hK := hT.wards
  have hSt := hV.stands
  have hset := hT.set
  have hset2 := pow_bd hW hset
  have hcel := hT.cells
  have hlaw := hT.law
  have hrd := hT.reads
  have hP8 := pw8 hW
  refine lv_iload_n hx hb dX3_leastBy_0 rfl (lv_at hl 1 rfl) ?_
  refine jz_const C dX3_leastBy_1 ?_
  refine jz_icmp_ge (tgt := 7) C dX3_leastBy_2 (by decide) (by omega) (fun h2 => ?_) (fun h2 => ?_)
  · skip
    refine lv_aload_n hx hb dX3_leastBy_7 rfl (lv_at hl 0 rfl) ?_
    refine fg_V_present C hin3 hE hP (List.mem_of_getElem? (i := 1) rfl) dX3_leastBy_8 ?_
    refine fg_T_stands C hin2 hE hP (v := I 5 9) (List.mem_of_getElem? (i := 2) rfl) dX3_leastBy_11 rfl ?_
    refine jz_if_ne (tgt := 20) C dX3_leastBy_14 (by decide) (by omega) (fun h14 => ?_) (fun h14 => ?_)
    · skip
      refine lv_aload_n hx hb dX3_leastBy_20 rfl (lv_at hl 0 rfl) ?_
      refine fg_V_present C hin3 hE hP (List.mem_of_getElem? (i := 1) rfl) dX3_leastBy_21 ?_
      refine lv_iload_n hx hb dX3_leastBy_24 rfl (lv_at hl 2 rfl) ?_
      refine jc_V C hl.1 (jpreV hE hP 2 5 rfl rfl) (c_X2_leastSetting_b  hT) (cwV 1 C.2.2.2.2 gX3_leastBy_X2_leastSetting rfl rfl rfl (by decide +kernel) ⟨Nat.le_of_ble_eq_true rfl, Nat.le_of_ble_eq_true rfl⟩) (As := [.int (iI (0))]) (v := .int (iI ((am (fun t : Nat => su (mz I R (t : Int)) (Int.toNat (I 5 14))) (2 ^ (Int.toNat (2 * I 5 13)))).1))) (hn := rfl) (hst := rfl) (rest := []) (hW := Nat.le_of_ble_eq_true rfl) (hdg := dX3_leastBy_25) (hf := ⟨Nat.le_of_ble_eq_true rfl, Nat.le_of_ble_eq_true rfl⟩) ?_
      refine lv_istore_n (lv' := [(3, .int (iI ((am (fun t : Nat => su (mz I R (t : Int)) (Int.toNat (I 5 14))) (2 ^ (Int.toNat (2 * I 5 13)))).1))), (0, .ref (ad 0)), (1, .int (iI (w))), (2, .int (iI (0)))]) hx hb dX3_leastBy_28 rfl hl (by decide) rfl (fun ls hl => ?_)
      have ham := am_bd (g := (fun t : Nat => su (mz I R (t : Int)) (Int.toNat (I 5 14)))) (n := 2 ^ (Int.toNat (2 * I 5 13))) (fun x _ => by have := su_bd (f := mz I R (x : Int)) (n := Int.toNat (I 5 14)) (b := 720) (fun y hy => mz_bd hT (by omega)); exact ⟨this.1, by first | omega | (simp only; omega)⟩)
      have hpw := pwN (Int.toNat (2 * I 5 13))
      have hchoice : 0 ≤ (am (fun t : Nat => su (mz I R (t : Int)) (Int.toNat (I 5 14))) (2 ^ (Int.toNat (2 * I 5 13)))).1 ∧ (am (fun t : Nat => su (mz I R (t : Int)) (Int.toNat (I 5 14))) (2 ^ (Int.toNat (2 * I 5 13)))).1 < 256 := ⟨ham.1, by have h5 := ham.2.1; split at h5 <;> omega⟩
      refine lv_iload_n hx hb dX3_leastBy_29 rfl (lv_at hl 2 rfl) ?_
      refine jz_const C dX3_leastBy_30 ?_
      refine jz_icmp_ne (tgt := 58) C dX3_leastBy_31 (by decide) (by omega) (fun h31 => ?_) (fun h31 => ?_)
      · skip
        refine lv_aload_n hx hb dX3_leastBy_58 rfl (lv_at hl 1 rfl) ?_
        refine lv_iload_n hx hb dX3_leastBy_59 rfl (lv_at hl 0 rfl) ?_
        refine lv_iload_n hx hb dX3_leastBy_60 rfl (lv_at hl 2 rfl) ?_
        refine jc_V C hl.1 (jpreV hE hP 3 0 rfl rfl) (c_X3_vaneOrNone ((am (fun t : Nat => su (mz I R (t : Int)) (Int.toNat (I 5 14))) (2 ^ (Int.toNat (2 * I 5 13)))).1) w hT (show 0 ≤ ((am (fun t : Nat => su (mz I R (t : Int)) (Int.toNat (I 5 14))) (2 ^ (Int.toNat (2 * I 5 13)))).1) ∧ ((am (fun t : Nat => su (mz I R (t : Int)) (Int.toNat (I 5 14))) (2 ^ (Int.toNat (2 * I 5 13)))).1) < 256 from (by omega)) (show -2147483648 ≤ w ∧ w < 2147483648 from (by omega))) (cwV 2 C.2.2.2.2 gX3_leastBy_X3_vaneOrNone rfl rfl rfl (by decide +kernel) ⟨Nat.le_of_ble_eq_true rfl, Nat.le_of_ble_eq_true rfl⟩) (As := [.int (iI ((am (fun t : Nat => su (mz I R (t : Int)) (Int.toNat (I 5 14))) (2 ^ (Int.toNat (2 * I 5 13)))).1)), .int (iI (w))]) (v := .int (iI (if 0 ≤ w ∧ w < I 5 13 then vz (I 5 13) ((am (fun t : Nat => su (mz I R (t : Int)) (Int.toNat (I 5 14))) (2 ^ (Int.toNat (2 * I 5 13)))).1) w else -9))) (hn := rfl) (hst := rfl) (rest := []) (hW := Nat.le_of_ble_eq_true rfl) (hdg := dX3_leastBy_61) (hf := ⟨Nat.le_of_ble_eq_true rfl, Nat.le_of_ble_eq_true rfl⟩) ?_
        exact jz_ret (show (k_X3_leastBy_b I R w : Int) = if 0 ≤ w ∧ w < I 5 13 then vz (I 5 13) ((am (fun t : Nat => su (mz I R (t : Int)) (Int.toNat (I 5 14))) (2 ^ (Int.toNat (2 * I 5 13)))).1) w else -9 from by rw [k_X3_leastBy_b, (if_neg (Int.not_lt.mpr h2)), (if_neg (h14)), (if_neg (h31))]) (hret _ _ dX3_leastBy_64)
      · skip
        refine lv_iload_n hx hb dX3_leastBy_34 rfl (lv_at hl 3 rfl) ?_
        refine jz_if_eq (tgt := 49) C dX3_leastBy_35 (by decide) (by omega) (fun h35 => ?_) (fun h35 => ?_)
        · skip
          refine lv_aload_n hx hb dX3_leastBy_49 rfl (lv_at hl 1 rfl) ?_
          refine fg_V_present C hin3 hE hP (List.mem_of_getElem? (i := 1) rfl) dX3_leastBy_50 ?_
          refine lv_iload_n hx hb dX3_leastBy_53 rfl (lv_at hl 0 rfl) ?_
          refine jc_V C hl.1 (jpreV hE hP 2 5 rfl rfl) (c_X2_burdenBy ((am (fun t : Nat => su (mz I R (t : Int)) (Int.toNat (I 5 14))) (2 ^ (Int.toNat (2 * I 5 13)))).1) hT (show 0 ≤ ((am (fun t : Nat => su (mz I R (t : Int)) (Int.toNat (I 5 14))) (2 ^ (Int.toNat (2 * I 5 13)))).1) ∧ ((am (fun t : Nat => su (mz I R (t : Int)) (Int.toNat (I 5 14))) (2 ^ (Int.toNat (2 * I 5 13)))).1) < 256 from (by omega))) (cwV 1 C.2.2.2.2 gX3_leastBy_X2_burdenBy rfl rfl rfl (by decide +kernel) ⟨Nat.le_of_ble_eq_true rfl, Nat.le_of_ble_eq_true rfl⟩) (As := [.int (iI ((am (fun t : Nat => su (mz I R (t : Int)) (Int.toNat (I 5 14))) (2 ^ (Int.toNat (2 * I 5 13)))).1))]) (v := .int (iI (su (mz I R ((am (fun t : Nat => su (mz I R (t : Int)) (Int.toNat (I 5 14))) (2 ^ (Int.toNat (2 * I 5 13)))).1)) (Int.toNat (I 5 14))))) (hn := rfl) (hst := rfl) (rest := []) (hW := Nat.le_of_ble_eq_true rfl) (hdg := dX3_leastBy_54) (hf := ⟨Nat.le_of_ble_eq_true rfl, Nat.le_of_ble_eq_true rfl⟩) ?_
          exact jz_ret (show (k_X3_leastBy_b I R w : Int) = su (mz I R ((am (fun t : Nat => su (mz I R (t : Int)) (Int.toNat (I 5 14))) (2 ^ (Int.toNat (2 * I 5 13)))).1)) (Int.toNat (I 5 14)) from by rw [k_X3_leastBy_b, (if_neg (Int.not_lt.mpr h2)), (if_neg (h14)), (if_pos h31)]) (hret _ _ dX3_leastBy_57)
        · exact absurd h35 (by decide)
    · skip
      refine jz_bipush C dX3_leastBy_17 (by decide +kernel) ?_
      exact jz_ret (show (k_X3_leastBy_b I R w : Int) = -3 from by rw [k_X3_leastBy_b, (if_neg (Int.not_lt.mpr h2)), (if_pos h14)]) (hret _ _ dX3_leastBy_19)
  · skip
    refine jz_const C dX3_leastBy_5 ?_
    exact jz_ret (show (k_X3_leastBy_b I R w : Int) = -1 from by rw [k_X3_leastBy_b, (if_pos h2)]) (hret _ _ dX3_leastBy_6)
def k_X3_leastBy_c (I R : Nat → Nat → Int) (w : Int) : Int := if w < (-1) then (-1) else (if (I 5 9) = 0 then (-3) else (if w = (-1) then (mx (mz I R ((am (fun t : Nat => mx (mz I R (t : Int)) (Int.toNat (I 5 14))) (2 ^ (Int.toNat (2 * I 5 13)))).1)) (Int.toNat (I 5 14))) else (if 0 ≤ w ∧ w < I 5 13 then vz (I 5 13) ((am (fun t : Nat => mx (mz I R (t : Int)) (Int.toNat (I 5 14))) (2 ^ (Int.toNat (2 * I 5 13)))).1) w else -9)))
abbrev rm_X3_leastBy_c : Room := { frames := 5, cells := 0, slots := 0, locals := 120 }
set_option maxHeartbeats 4000000 in
set_option maxRecDepth 100000 in
theorem c_X3_leastBy_c {l : Launch} {D : va_G} {cI cS : ClassId} {ad : Nat → Nat} {I R : Nat → Nat → Int}  (w : Int)  (hV : VI I R) (hr_w : -2147483648 ≤ w ∧ w < 2147483648): JS l yX3_leastBy wsX3_leastBy rm_X3_leastBy_c (jB D cI cS (wC cI cS ad I R)) [.ref (ad 0), .int (iI (w)), .int (iI (1))] (.int (iI (k_X3_leastBy_c I R w))) := by
  refine JS.mkI rfl (by decide +kernel) rfl (Nat.le_of_ble_eq_true rfl) ?_
  intro p e st mi ar bl mth cd Q ls C hB hl hret
  obtain ⟨hE, hP⟩ := hB
  have hx := C.1
  have hb := C.2.1
  have hl : lv_has ls 4 [(0, .ref (ad 0)), (1, .int (iI (w))), (2, .int (iI (1)))] := hl
  have hin2 : ∀ w ∈ wsX20, w ∈ wsX3_leastBy := fun _ h => List.mem_cons_of_mem _ (List.mem_append_right _ h)
  have hin3 : ∀ w ∈ wsX30, w ∈ wsX3_leastBy := fun _ h => List.mem_cons_of_mem _ (List.mem_append_left _ (List.mem_append_right _ h))
  have hT := hV.town
  have hW := hT.works
  have hK := hT.wards
  have hSt := hV.stands
  have hset := hT.set
  have hset2 := pow_bd hW hset
  have hcel := hT.cells
  have hlaw := hT.law
  have hrd := hT.reads
  have hP8 := pw8 hW
  refine lv_iload_n hx hb dX3_leastBy_0 rfl (lv_at hl 1 rfl) ?_
  refine jz_const C dX3_leastBy_1 ?_
  refine jz_icmp_ge (tgt := 7) C dX3_leastBy_2 (by decide) (by omega) (fun h2 => ?_) (fun h2 => ?_)
  · skip
    refine lv_aload_n hx hb dX3_leastBy_7 rfl (lv_at hl 0 rfl) ?_
    refine fg_V_present C hin3 hE hP (List.mem_of_getElem? (i := 1) rfl) dX3_leastBy_8 ?_
    refine fg_T_stands C hin2 hE hP (v := I 5 9) (List.mem_of_getElem? (i := 2) rfl) dX3_leastBy_11 rfl ?_
    refine jz_if_ne (tgt := 20) C dX3_leastBy_14 (by decide) (by omega) (fun h14 => ?_) (fun h14 => ?_)
    · skip
      refine lv_aload_n hx hb dX3_leastBy_20 rfl (lv_at hl 0 rfl) ?_
      refine fg_V_present C hin3 hE hP (List.mem_of_getElem? (i := 1) rfl) dX3_leastBy_21 ?_
      refine lv_iload_n hx hb dX3_leastBy_24 rfl (lv_at hl 2 rfl) ?_
      refine jc_V C hl.1 (jpreV hE hP 2 5 rfl rfl) (c_X2_leastSetting_c  hT) (cwV 1 C.2.2.2.2 gX3_leastBy_X2_leastSetting rfl rfl rfl (by decide +kernel) ⟨Nat.le_of_ble_eq_true rfl, Nat.le_of_ble_eq_true rfl⟩) (As := [.int (iI (1))]) (v := .int (iI ((am (fun t : Nat => mx (mz I R (t : Int)) (Int.toNat (I 5 14))) (2 ^ (Int.toNat (2 * I 5 13)))).1))) (hn := rfl) (hst := rfl) (rest := []) (hW := Nat.le_of_ble_eq_true rfl) (hdg := dX3_leastBy_25) (hf := ⟨Nat.le_of_ble_eq_true rfl, Nat.le_of_ble_eq_true rfl⟩) ?_
      refine lv_istore_n (lv' := [(3, .int (iI ((am (fun t : Nat => mx (mz I R (t : Int)) (Int.toNat (I 5 14))) (2 ^ (Int.toNat (2 * I 5 13)))).1))), (0, .ref (ad 0)), (1, .int (iI (w))), (2, .int (iI (1)))]) hx hb dX3_leastBy_28 rfl hl (by decide) rfl (fun ls hl => ?_)
      have ham := am_bd (g := (fun t : Nat => mx (mz I R (t : Int)) (Int.toNat (I 5 14)))) (n := 2 ^ (Int.toNat (2 * I 5 13))) (fun x _ => by have := mx_bd (f := mz I R (x : Int)) (n := Int.toNat (I 5 14)) (b := 720) (by omega) (fun y hy => mz_bd hT (by omega)); exact ⟨this.1, by first | omega | (simp only; omega)⟩)
      have hpw := pwN (Int.toNat (2 * I 5 13))
      have hchoice : 0 ≤ (am (fun t : Nat => mx (mz I R (t : Int)) (Int.toNat (I 5 14))) (2 ^ (Int.toNat (2 * I 5 13)))).1 ∧ (am (fun t : Nat => mx (mz I R (t : Int)) (Int.toNat (I 5 14))) (2 ^ (Int.toNat (2 * I 5 13)))).1 < 256 := ⟨ham.1, by have h5 := ham.2.1; split at h5 <;> omega⟩
      refine lv_iload_n hx hb dX3_leastBy_29 rfl (lv_at hl 2 rfl) ?_
      refine jz_const C dX3_leastBy_30 ?_
      refine jz_icmp_ne (tgt := 58) C dX3_leastBy_31 (by decide) (by omega) (fun h31 => ?_) (fun h31 => ?_)
      · skip
        refine lv_aload_n hx hb dX3_leastBy_58 rfl (lv_at hl 1 rfl) ?_
        refine lv_iload_n hx hb dX3_leastBy_59 rfl (lv_at hl 0 rfl) ?_
        refine lv_iload_n hx hb dX3_leastBy_60 rfl (lv_at hl 2 rfl) ?_
        refine jc_V C hl.1 (jpreV hE hP 3 0 rfl rfl) (c_X3_vaneOrNone ((am (fun t : Nat => mx (mz I R (t : Int)) (Int.toNat (I 5 14))) (2 ^ (Int.toNat (2 * I 5 13)))).1) w hT (show 0 ≤ ((am (fun t : Nat => mx (mz I R (t : Int)) (Int.toNat (I 5 14))) (2 ^ (Int.toNat (2 * I 5 13)))).1) ∧ ((am (fun t : Nat => mx (mz I R (t : Int)) (Int.toNat (I 5 14))) (2 ^ (Int.toNat (2 * I 5 13)))).1) < 256 from (by omega)) (show -2147483648 ≤ w ∧ w < 2147483648 from (by omega))) (cwV 2 C.2.2.2.2 gX3_leastBy_X3_vaneOrNone rfl rfl rfl (by decide +kernel) ⟨Nat.le_of_ble_eq_true rfl, Nat.le_of_ble_eq_true rfl⟩) (As := [.int (iI ((am (fun t : Nat => mx (mz I R (t : Int)) (Int.toNat (I 5 14))) (2 ^ (Int.toNat (2 * I 5 13)))).1)), .int (iI (w))]) (v := .int (iI (if 0 ≤ w ∧ w < I 5 13 then vz (I 5 13) ((am (fun t : Nat => mx (mz I R (t : Int)) (Int.toNat (I 5 14))) (2 ^ (Int.toNat (2 * I 5 13)))).1) w else -9))) (hn := rfl) (hst := rfl) (rest := []) (hW := Nat.le_of_ble_eq_true rfl) (hdg := dX3_leastBy_61) (hf := ⟨Nat.le_of_ble_eq_true rfl, Nat.le_of_ble_eq_true rfl⟩) ?_
        exact jz_ret (show (k_X3_leastBy_c I R w : Int) = if 0 ≤ w ∧ w < I 5 13 then vz (I 5 13) ((am (fun t : Nat => mx (mz I R (t : Int)) (Int.toNat (I 5 14))) (2 ^ (Int.toNat (2 * I 5 13)))).1) w else -9 from by rw [k_X3_leastBy_c, (if_neg (Int.not_lt.mpr h2)), (if_neg (h14)), (if_neg (h31))]) (hret _ _ dX3_leastBy_64)
      · skip
        refine lv_iload_n hx hb dX3_leastBy_34 rfl (lv_at hl 3 rfl) ?_
        refine jz_if_eq (tgt := 49) C dX3_leastBy_35 (by decide) (by omega) (fun h35 => ?_) (fun h35 => ?_)
        · exact absurd h35 (by decide)
        · skip
          refine lv_aload_n hx hb dX3_leastBy_38 rfl (lv_at hl 1 rfl) ?_
          refine fg_V_present C hin3 hE hP (List.mem_of_getElem? (i := 1) rfl) dX3_leastBy_39 ?_
          refine lv_iload_n hx hb dX3_leastBy_42 rfl (lv_at hl 0 rfl) ?_
          refine jc_V C hl.1 (jpreV hE hP 2 5 rfl rfl) (c_X2_mostMindedBy ((am (fun t : Nat => mx (mz I R (t : Int)) (Int.toNat (I 5 14))) (2 ^ (Int.toNat (2 * I 5 13)))).1) hT (show 0 ≤ ((am (fun t : Nat => mx (mz I R (t : Int)) (Int.toNat (I 5 14))) (2 ^ (Int.toNat (2 * I 5 13)))).1) ∧ ((am (fun t : Nat => mx (mz I R (t : Int)) (Int.toNat (I 5 14))) (2 ^ (Int.toNat (2 * I 5 13)))).1) < 256 from (by omega))) (cwV 1 C.2.2.2.2 gX3_leastBy_X2_mostMindedBy rfl rfl rfl (by decide +kernel) ⟨Nat.le_of_ble_eq_true rfl, Nat.le_of_ble_eq_true rfl⟩) (As := [.int (iI ((am (fun t : Nat => mx (mz I R (t : Int)) (Int.toNat (I 5 14))) (2 ^ (Int.toNat (2 * I 5 13)))).1))]) (v := .int (iI (mx (mz I R ((am (fun t : Nat => mx (mz I R (t : Int)) (Int.toNat (I 5 14))) (2 ^ (Int.toNat (2 * I 5 13)))).1)) (Int.toNat (I 5 14))))) (hn := rfl) (hst := rfl) (rest := []) (hW := Nat.le_of_ble_eq_true rfl) (hdg := dX3_leastBy_43) (hf := ⟨Nat.le_of_ble_eq_true rfl, Nat.le_of_ble_eq_true rfl⟩) ?_
          refine lv_goto (tgt := 57) hx hb dX3_leastBy_46 (by decide) ?_
          exact jz_ret (show (k_X3_leastBy_c I R w : Int) = mx (mz I R ((am (fun t : Nat => mx (mz I R (t : Int)) (Int.toNat (I 5 14))) (2 ^ (Int.toNat (2 * I 5 13)))).1)) (Int.toNat (I 5 14)) from by rw [k_X3_leastBy_c, (if_neg (Int.not_lt.mpr h2)), (if_neg (h14)), (if_pos h31)]) (hret _ _ dX3_leastBy_57)
    · skip
      refine jz_bipush C dX3_leastBy_17 (by decide +kernel) ?_
      exact jz_ret (show (k_X3_leastBy_c I R w : Int) = -3 from by rw [k_X3_leastBy_c, (if_neg (Int.not_lt.mpr h2)), (if_pos h14)]) (hret _ _ dX3_leastBy_19)
  · skip
    refine jz_const C dX3_leastBy_5 ?_
    exact jz_ret (show (k_X3_leastBy_c I R w : Int) = -1 from by rw [k_X3_leastBy_c, (if_pos h2)]) (hret _ _ dX3_leastBy_6)
def k_X3_best (I R : Nat → Nat → Int) (w : Int) : Int := k_X3_leastBy_b I R w
abbrev rm_X3_best : Room := { frames := 6, cells := 0, slots := 0, locals := 143 }
set_option maxHeartbeats 4000000 in
set_option maxRecDepth 100000 in
theorem c_X3_best {l : Launch} {D : va_G} {cI cS : ClassId} {ad : Nat → Nat} {I R : Nat → Nat → Int}  (w : Int)  (hV : VI I R) (hr_w : -2147483648 ≤ w ∧ w < 2147483648): JS l yX3_best wsX3_best rm_X3_best (jB D cI cS (wC cI cS ad I R)) [.ref (ad 0), .int (iI (w))] (.int (iI (k_X3_best I R w))) := by
  refine JS.mkI rfl (by decide +kernel) rfl (Nat.le_of_ble_eq_true rfl) ?_
  intro p e st mi ar bl mth cd Q ls C hB hl hret
  obtain ⟨hE, hP⟩ := hB
  have hx := C.1
  have hb := C.2.1
  have hl : lv_has ls 2 [(0, .ref (ad 0)), (1, .int (iI (w)))] := hl
  have hT := hV.town
  have hW := hT.works
  have hK := hT.wards
  have hSt := hV.stands
  have hset := hT.set
  have hset2 := pow_bd hW hset
  have hcel := hT.cells
  have hlaw := hT.law
  have hrd := hT.reads
  have hP8 := pw8 hW
  refine lv_aload_n hx hb dX3_best_0 rfl (lv_at hl 0 rfl) ?_
  refine lv_iload_n hx hb dX3_best_1 rfl (lv_at hl 1 rfl) ?_
  refine jz_const C dX3_best_2 ?_
  refine jc_V C hl.1 (jpreV hE hP 3 0 rfl rfl) (c_X3_leastBy_b w hV (show -2147483648 ≤ w ∧ w < 2147483648 from (by omega))) (cwV 2 C.2.2.2.2 gX3_best_X3_leastBy rfl rfl rfl (by decide +kernel) ⟨Nat.le_of_ble_eq_true rfl, Nat.le_of_ble_eq_true rfl⟩) (As := [.int (iI (w)), .int (iI (0))]) (v := .int (iI (k_X3_leastBy_b I R w))) (hn := rfl) (hst := rfl) (rest := []) (hW := Nat.le_of_ble_eq_true rfl) (hdg := dX3_best_3) (hf := ⟨Nat.le_of_ble_eq_true rfl, Nat.le_of_ble_eq_true rfl⟩) ?_
  exact jz_ret (show (k_X3_best I R w : Int) = k_X3_leastBy_b I R w from by rw [k_X3_best]) (hret _ _ dX3_best_6)
def k_X3_calm (I R : Nat → Nat → Int) (w : Int) : Int := k_X3_leastBy_c I R w
abbrev rm_X3_calm : Room := { frames := 6, cells := 0, slots := 0, locals := 143 }
set_option maxHeartbeats 4000000 in
set_option maxRecDepth 100000 in
theorem c_X3_calm {l : Launch} {D : va_G} {cI cS : ClassId} {ad : Nat → Nat} {I R : Nat → Nat → Int}  (w : Int)  (hV : VI I R) (hr_w : -2147483648 ≤ w ∧ w < 2147483648): JS l yX3_calm wsX3_calm rm_X3_calm (jB D cI cS (wC cI cS ad I R)) [.ref (ad 0), .int (iI (w))] (.int (iI (k_X3_calm I R w))) := by
  refine JS.mkI rfl (by decide +kernel) rfl (Nat.le_of_ble_eq_true rfl) ?_
  intro p e st mi ar bl mth cd Q ls C hB hl hret
  obtain ⟨hE, hP⟩ := hB
  have hx := C.1
  have hb := C.2.1
  have hl : lv_has ls 2 [(0, .ref (ad 0)), (1, .int (iI (w)))] := hl
  have hT := hV.town
  have hW := hT.works
  have hK := hT.wards
  have hSt := hV.stands
  have hset := hT.set
  have hset2 := pow_bd hW hset
  have hcel := hT.cells
  have hlaw := hT.law
  have hrd := hT.reads
  have hP8 := pw8 hW
  refine lv_aload_n hx hb dX3_calm_0 rfl (lv_at hl 0 rfl) ?_
  refine lv_iload_n hx hb dX3_calm_1 rfl (lv_at hl 1 rfl) ?_
  refine jz_const C dX3_calm_2 ?_
  refine jc_V C hl.1 (jpreV hE hP 3 0 rfl rfl) (c_X3_leastBy_c w hV (show -2147483648 ≤ w ∧ w < 2147483648 from (by omega))) (cwV 2 C.2.2.2.2 gX3_calm_X3_leastBy rfl rfl rfl (by decide +kernel) ⟨Nat.le_of_ble_eq_true rfl, Nat.le_of_ble_eq_true rfl⟩) (As := [.int (iI (w)), .int (iI (1))]) (v := .int (iI (k_X3_leastBy_c I R w))) (hn := rfl) (hst := rfl) (rest := []) (hW := Nat.le_of_ble_eq_true rfl) (hdg := dX3_calm_3) (hf := ⟨Nat.le_of_ble_eq_true rfl, Nat.le_of_ble_eq_true rfl⟩) ?_
  exact jz_ret (show (k_X3_calm I R w : Int) = k_X3_leastBy_c I R w from by rw [k_X3_calm]) (hret _ _ dX3_calm_6)
def k_X3_bribe (I R : Nat → Nat → Int) (w : Int) (v : Int) : Int × (Nat → Nat → Int) × (Nat → Nat → Int) := if 0 ≤ w ∧ w < I 5 13 then (if 0 ≤ v ∧ v ≤ 3 then (((br (fun b : Nat => decide (wi (bv (b : Int) v (fun k : Nat => vo I R (I 5 16) k w)) (Int.toNat (I 5 14)) = v)) (2 ^ (Int.toNat (I 5 14)))).1, I, R)) else ((-2, I, R))) else ((-1, I, R))
abbrev rm_X3_bribe : Room := { frames := 6, cells := 0, slots := 0, locals := 148 }
set_option maxHeartbeats 4000000 in
set_option maxRecDepth 100000 in
theorem c_X3_bribe {l : Launch} {D : va_G} {cI cS : ClassId} {ad : Nat → Nat} {I R : Nat → Nat → Int} {A : Nat → Prop} (hD : va_D A (wC cI cS ad I R))  (w : Int) (v : Int)  (hV : VI I R) (hr_w : -2147483648 ≤ w ∧ w < 2147483648) (hr_v : -2147483648 ≤ v ∧ v < 2147483648): JV l yX3_bribe wsX3_bribe rm_X3_bribe (jB D cI cS (wC cI cS ad I R)) A [.ref (ad 0), .int (iI (w)), .int (iI (v))] (fun v9 (u9 : (Nat → Nat → Int) × (Nat → Nat → Int)) => v9 = some (.int (iI (k_X3_bribe I R w v).1)) ∧ u9.1 = (k_X3_bribe I R w v).2.1 ∧ jq u9.2 (k_X3_bribe I R w v).2.2) (fun u9 H => va_P D vwCl (wC cI cS ad u9.1 u9.2) H) := by
  refine JV.mkI rfl (by decide +kernel) rfl (Nat.le_of_ble_eq_true rfl) ?_
  intro p e st mi ar bl mth cd Q ls C hB hl hret
  obtain ⟨hE, hP⟩ := hB
  have hx := C.1
  have hb := C.2.1
  have hl : lv_has ls 3 [(0, .ref (ad 0)), (1, .int (iI (w))), (2, .int (iI (v)))] := hl
  have hin3 : ∀ w ∈ wsX30, w ∈ wsX3_bribe := fun _ h => List.mem_cons_of_mem _ (List.mem_append_left _ (List.mem_append_right _ h))
  suffices hgo : ∀ (H : Heap) (lc : List Loc), va_P D vwCl (wC cI cS ad I R) H → va_S A st.heap H lc → W p l e rm_X3_bribe st mi ar bl mth cd H lc 0 0 Q (F0 mi 0 ls []) from hgo _ _ hP va_S.rf
  clear hP
  intro H lc hP hS
  have hT := hV.town
  have hW := hT.works
  have hK := hT.wards
  have hSt := hV.stands
  have hset := hT.set
  have hset2 := pow_bd hW hset
  have hcel := hT.cells
  have hlaw := hT.law
  have hrd := hT.reads
  have hP8 := pw8 hW
  refine lv_aload_n hx hb dX3_bribe_0 rfl (lv_at hl 0 rfl) ?_
  refine fg_V_present C hin3 hE hP (List.mem_of_getElem? (i := 1) rfl) dX3_bribe_1 ?_
  refine lv_iload_n hx hb dX3_bribe_4 rfl (lv_at hl 1 rfl) ?_
  refine jc_V C hl.1 (jpreV hE hP 2 5 rfl rfl) (c_X2_hasWork w (show -2147483648 ≤ w ∧ w < 2147483648 from (by omega)) hT.works) (cwV 1 C.2.2.2.2 gX3_bribe_X2_hasWork rfl rfl rfl (by decide +kernel) ⟨Nat.le_of_ble_eq_true rfl, Nat.le_of_ble_eq_true rfl⟩) (As := [.int (iI (w))]) (v := .int (iI (if 0 ≤ w ∧ w < I 5 13 then 1 else 0))) (hn := rfl) (hst := rfl) (rest := []) (hW := Nat.le_of_ble_eq_true rfl) (hdg := dX3_bribe_5) (hf := ⟨Nat.le_of_ble_eq_true rfl, Nat.le_of_ble_eq_true rfl⟩) ?_
  refine jz_bool_ne (tgt := 13) C dX3_bribe_8 (by decide) (fun h8 => ?_) (fun h8 => ?_)
  · skip
    refine lv_iload_n hx hb dX3_bribe_13 rfl (lv_at hl 2 rfl) ?_
    refine jz_const C dX3_bribe_14 ?_
    refine jc_S C hl.1 (jpreS hE hP) (c_X3_isUpTo v 3 (show -2147483648 ≤ v ∧ v < 2147483648 from (by omega)) (show -2147483648 ≤ 3 ∧ 3 < 2147483648 from (by omega))) (va_cwS 2 C.2.2.2.2 gX3_bribe_X3_isUpTo rfl rfl rfl (by decide +kernel) ⟨Nat.le_of_ble_eq_true rfl, Nat.le_of_ble_eq_true rfl⟩) (As := [.int (iI (v)), .int (iI (3))]) (v := .int (iI (if 0 ≤ v ∧ v ≤ 3 then 1 else 0))) (hn := rfl) (hst := rfl) (rest := []) (hW := Nat.le_of_ble_eq_true rfl) (hdg := dX3_bribe_15) (hf := ⟨Nat.le_of_ble_eq_true rfl, Nat.le_of_ble_eq_true rfl⟩) ?_
    refine jz_bool_eq (tgt := 33) C dX3_bribe_18 (by decide) (fun h18 => ?_) (fun h18 => ?_)
    · skip
      refine jz_bipush C dX3_bribe_33 (by decide +kernel) ?_
      have hk9 : k_X3_bribe I R w v = (-2, I, R) := by rw [k_X3_bribe, (if_pos h8), (if_neg h18)]
      exact hret _ (I, R) _ _ _ _ dX3_bribe_35 ⟨by rw [hk9], by rw [hk9], by rw [hk9]; exact (fun q h14 h4 => by first | rfl | exact uR_n h14 | exact uR_n h4 | exact (uR_n h14).trans (uR_n h4) | exact (uR_n h4).trans (uR_n h14))⟩ hP hS
    · skip
      refine lv_aload_n hx hb dX3_bribe_21 rfl (lv_at hl 0 rfl) ?_
      refine fg_V_present C hin3 hE hP (List.mem_of_getElem? (i := 1) rfl) dX3_bribe_22 ?_
      refine lv_iload_n hx hb dX3_bribe_25 rfl (lv_at hl 1 rfl) ?_
      refine lv_iload_n hx hb dX3_bribe_26 rfl (lv_at hl 2 rfl) ?_
      refine jw_V C hl.1 (jpreV hE hP 2 5 rfl rfl) (c_X2_fewestBribed (A := A) (jDC hD) w v hT (show 0 ≤ w ∧ w < I 5 13 from (by omega)) (show 0 ≤ v ∧ v < 4 from (by omega))) (cwV 2 C.2.2.2.2 gX3_bribe_X2_fewestBribed rfl rfl rfl (by decide +kernel) ⟨Nat.le_of_ble_eq_true rfl, Nat.le_of_ble_eq_true rfl⟩) (As := [.int (iI (w)), .int (iI (v))]) (hn := rfl) (hst := rfl) (rest := []) (hW := Nat.le_of_ble_eq_true rfl) (hdg := dX3_bribe_27) (hf := ⟨Nat.le_of_ble_eq_true rfl, Nat.le_of_ble_eq_true rfl⟩) hS (fun v9 uq27 H lc hq9 hP hS => ?_)
      obtain rfl : v9 = some (.int (iI ((br (fun b : Nat => decide (wi (bv (b : Int) v (fun k : Nat => vo I R (I 5 16) k w)) (Int.toNat (I 5 14)) = v)) (2 ^ (Int.toNat (I 5 14)))).1))) := by first | exact hq9 | (rw [hq9, ye_jq (R := R) (R' := R) (by intro q h14 h4; simp only [uR_n h14, uR_n h4])])
      have hP : va_P D vwCl (wC cI cS ad I (uR R 14 (cv I R (I 5 16) w (Int.toNat (I 5 14)) (R 14)))) H := hP
      refine lv_goto (tgt := 35) hx hb dX3_bribe_30 (by decide) ?_
      have hk9 : k_X3_bribe I R w v = ((br (fun b : Nat => decide (wi (bv (b : Int) v (fun k : Nat => vo I R (I 5 16) k w)) (Int.toNat (I 5 14)) = v)) (2 ^ (Int.toNat (I 5 14)))).1, I, R) := by rw [k_X3_bribe, (if_pos h8), (if_pos h18)]
      exact hret _ (I, (uR R 14 (cv I R (I 5 16) w (Int.toNat (I 5 14)) (R 14)))) _ _ _ _ dX3_bribe_35 ⟨by rw [hk9], by rw [hk9], by rw [hk9]; exact (fun q h14 h4 => by first | rfl | exact uR_n h14 | exact uR_n h4 | exact (uR_n h14).trans (uR_n h4) | exact (uR_n h4).trans (uR_n h14))⟩ hP hS
  · skip
    refine jz_const C dX3_bribe_11 ?_
    have hk9 : k_X3_bribe I R w v = (-1, I, R) := by rw [k_X3_bribe, (if_neg h8)]
    exact hret _ (I, R) _ _ _ _ dX3_bribe_12 ⟨by rw [hk9], by rw [hk9], by rw [hk9]; exact (fun q h14 h4 => by first | rfl | exact uR_n h14 | exact uR_n h4 | exact (uR_n h14).trans (uR_n h4) | exact (uR_n h4).trans (uR_n h14))⟩ hP hS
def k_X3_reading (I R : Nat → Nat → Int) (c : Int) (v : Int) : Int × (Nat → Nat → Int) × (Nat → Nat → Int) := if 0 ≤ c ∧ c < I 5 12 then (if 0 ≤ v ∧ v ≤ 99 then (if (I 5 17) < 8 then ((I 5 17, (u2 I 5 17 ((I 5 17) + 1)), (uR (uR R 11 (u1 (R 11) (Int.toNat (I 5 17)) c)) 12 (u1 (R 12) (Int.toNat (I 5 17)) v)))) else ((-4, I, R))) else ((-2, I, R))) else ((-1, I, R))
abbrev rm_X3_reading : Room := { frames := 1, cells := 0, slots := 0, locals := 22 }
set_option maxHeartbeats 4000000 in
set_option maxRecDepth 100000 in
theorem c_X3_reading {l : Launch} {D : va_G} {cI cS : ClassId} {ad : Nat → Nat} {I R : Nat → Nat → Int} {A : Nat → Prop} (hD : va_D A (wC cI cS ad I R))  (c : Int) (v : Int)  (hV : VI I R) (hr_c : -2147483648 ≤ c ∧ c < 2147483648) (hr_v : -2147483648 ≤ v ∧ v < 2147483648): JV l yX3_reading wsX3_reading rm_X3_reading (jB D cI cS (wC cI cS ad I R)) A [.ref (ad 0), .int (iI (c)), .int (iI (v))] (fun v9 (u9 : (Nat → Nat → Int) × (Nat → Nat → Int)) => v9 = some (.int (iI (k_X3_reading I R c v).1)) ∧ u9.1 = (k_X3_reading I R c v).2.1 ∧ jq u9.2 (k_X3_reading I R c v).2.2) (fun u9 H => va_P D vwCl (wC cI cS ad u9.1 u9.2) H) := by
  refine JV.mkI rfl (by decide +kernel) rfl (Nat.le_of_ble_eq_true rfl) ?_
  intro p e st mi ar bl mth cd Q ls C hB hl hret
  obtain ⟨hE, hP⟩ := hB
  have hx := C.1
  have hb := C.2.1
  have hl : lv_has ls 4 [(0, .ref (ad 0)), (1, .int (iI (c))), (2, .int (iI (v)))] := hl
  have hin2 : ∀ w ∈ wsX20, w ∈ wsX3_reading := fun _ h => List.mem_cons_of_mem _ (List.mem_append_right _ h)
  have hin3 : ∀ w ∈ wsX30, w ∈ wsX3_reading := fun _ h => List.mem_cons_of_mem _ (List.mem_append_left _ (List.mem_append_right _ h))
  suffices hgo : ∀ (H : Heap) (lc : List Loc), va_P D vwCl (wC cI cS ad I R) H → va_S A st.heap H lc → W p l e rm_X3_reading st mi ar bl mth cd H lc 0 0 Q (F0 mi 0 ls []) from hgo _ _ hP va_S.rf
  clear hP
  intro H lc hP hS
  have hT := hV.town
  have hW := hT.works
  have hK := hT.wards
  have hSt := hV.stands
  have hset := hT.set
  have hset2 := pow_bd hW hset
  have hcel := hT.cells
  have hlaw := hT.law
  have hrd := hT.reads
  have hP8 := pw8 hW
  refine lv_aload_n hx hb dX3_reading_0 rfl (lv_at hl 0 rfl) ?_
  refine fg_V_present C hin3 hE hP (List.mem_of_getElem? (i := 1) rfl) dX3_reading_1 ?_
  refine lv_iload_n hx hb dX3_reading_4 rfl (lv_at hl 1 rfl) ?_
  refine jc_V C hl.1 (jpreV hE hP 2 5 rfl rfl) (c_X2_hasCell c (show -2147483648 ≤ c ∧ c < 2147483648 from (by omega)) hT.cells) (cwV 1 C.2.2.2.2 gX3_reading_X2_hasCell rfl rfl rfl (by decide +kernel) ⟨Nat.le_of_ble_eq_true rfl, Nat.le_of_ble_eq_true rfl⟩) (As := [.int (iI (c))]) (v := .int (iI (if 0 ≤ c ∧ c < I 5 12 then 1 else 0))) (hn := rfl) (hst := rfl) (rest := []) (hW := Nat.le_of_ble_eq_true rfl) (hdg := dX3_reading_5) (hf := ⟨Nat.le_of_ble_eq_true rfl, Nat.le_of_ble_eq_true rfl⟩) ?_
  refine jz_bool_ne (tgt := 13) C dX3_reading_8 (by decide) (fun h8 => ?_) (fun h8 => ?_)
  · skip
    refine lv_iload_n hx hb dX3_reading_13 rfl (lv_at hl 2 rfl) ?_
    refine jz_bipush C dX3_reading_14 (by decide +kernel) ?_
    refine jc_S C hl.1 (jpreS hE hP) (c_X3_isUpTo v 99 (show -2147483648 ≤ v ∧ v < 2147483648 from (by omega)) (show -2147483648 ≤ 99 ∧ 99 < 2147483648 from (by omega))) (va_cwS 2 C.2.2.2.2 gX3_reading_X3_isUpTo rfl rfl rfl (by decide +kernel) ⟨Nat.le_of_ble_eq_true rfl, Nat.le_of_ble_eq_true rfl⟩) (As := [.int (iI (v)), .int (iI (99))]) (v := .int (iI (if 0 ≤ v ∧ v ≤ 99 then 1 else 0))) (hn := rfl) (hst := rfl) (rest := []) (hW := Nat.le_of_ble_eq_true rfl) (hdg := dX3_reading_16) (hf := ⟨Nat.le_of_ble_eq_true rfl, Nat.le_of_ble_eq_true rfl⟩) ?_
    refine jz_bool_ne (tgt := 25) C dX3_reading_19 (by decide) (fun h19 => ?_) (fun h19 => ?_)
    · skip
      refine lv_aload_n hx hb dX3_reading_25 rfl (lv_at hl 0 rfl) ?_
      refine fg_V_present C hin3 hE hP (List.mem_of_getElem? (i := 1) rfl) dX3_reading_26 ?_
      refine fg_T_readings C hin2 hE hP (v := I 5 17) (List.mem_of_getElem? (i := 2) rfl) dX3_reading_29 rfl ?_
      refine jz_bipush C dX3_reading_32 (by decide +kernel) ?_
      refine jz_icmp_lt (tgt := 40) C dX3_reading_34 (by decide) (by omega) (fun h34 => ?_) (fun h34 => ?_)
      · skip
        refine lv_aload_n hx hb dX3_reading_40 rfl (lv_at hl 0 rfl) ?_
        refine fg_V_present C hin3 hE hP (List.mem_of_getElem? (i := 1) rfl) dX3_reading_41 ?_
        refine fg_T_readings C hin2 hE hP (v := I 5 17) (List.mem_of_getElem? (i := 2) rfl) dX3_reading_44 rfl ?_
        refine lv_istore_n (lv' := [(3, .int (iI (I 5 17))), (0, .ref (ad 0)), (1, .int (iI (c))), (2, .int (iI (v)))]) hx hb dX3_reading_47 rfl hl (by decide) rfl (fun ls hl => ?_)
        refine lv_aload_n hx hb dX3_reading_48 rfl (lv_at hl 1 rfl) ?_
        refine fg_V_present C hin3 hE hP (List.mem_of_getElem? (i := 1) rfl) dX3_reading_49 ?_
        refine fg_T_readingCells C hin2 hE hP (List.mem_of_getElem? (i := 3) rfl) dX3_reading_52 ?_
        refine lv_iload_n hx hb dX3_reading_55 rfl (lv_at hl 0 rfl) ?_
        refine lv_iload_n hx hb dX3_reading_56 rfl (lv_at hl 2 rfl) ?_
        refine jw_S C hl.1 (jpreS hE hP) (c_X3_write (A := A) (jDC hD) (I 5 17) c 11 8 (R 11) (ad 11) rfl (by decide) (show 0 ≤ (I 5 17) ∧ (I 5 17) < 8 from (by omega))) (va_cwS 3 C.2.2.2.2 gX3_reading_X3_write rfl rfl rfl (by decide +kernel) ⟨Nat.le_of_ble_eq_true rfl, Nat.le_of_ble_eq_true rfl⟩) (As := [.ref (ad 11), .int (iI (I 5 17)), .int (iI (c))]) (hn := rfl) (hst := rfl) (rest := []) (hW := Nat.le_of_ble_eq_true rfl) (hdg := dX3_reading_57) (hf := ⟨Nat.le_of_ble_eq_true rfl, Nat.le_of_ble_eq_true rfl⟩) hS (fun v9 uq57 H lc hq9 hP hS => ?_)
        subst hq9
        have hP : va_P D vwCl (wC cI cS ad I (uR R 11 (u1 (R 11) (Int.toNat (I 5 17)) c))) H := hP
        refine lv_aload_n hx hb dX3_reading_60 rfl (lv_at hl 1 rfl) ?_
        refine fg_V_present C hin3 hE hP (List.mem_of_getElem? (i := 1) rfl) dX3_reading_61 ?_
        refine fg_T_readingSmells C hin2 hE hP (List.mem_of_getElem? (i := 4) rfl) dX3_reading_64 ?_
        refine lv_iload_n hx hb dX3_reading_67 rfl (lv_at hl 0 rfl) ?_
        refine lv_iload_n hx hb dX3_reading_68 rfl (lv_at hl 3 rfl) ?_
        refine jw_S C hl.1 (jpreS hE hP) (c_X3_write (A := A) (jDC hD) (I 5 17) v 12 8 (R 12) (ad 12) rfl (by decide) (show 0 ≤ (I 5 17) ∧ (I 5 17) < 8 from (by omega))) (va_cwS 3 C.2.2.2.2 gX3_reading_X3_write rfl rfl rfl (by decide +kernel) ⟨Nat.le_of_ble_eq_true rfl, Nat.le_of_ble_eq_true rfl⟩) (As := [.ref (ad 12), .int (iI (I 5 17)), .int (iI (v))]) (hn := rfl) (hst := rfl) (rest := []) (hW := Nat.le_of_ble_eq_true rfl) (hdg := dX3_reading_69) (hf := ⟨Nat.le_of_ble_eq_true rfl, Nat.le_of_ble_eq_true rfl⟩) hS (fun v9 uq69 H lc hq9 hP hS => ?_)
        subst hq9
        have hP : va_P D vwCl (wC cI cS ad I (uR (uR R 11 (u1 (R 11) (Int.toNat (I 5 17)) c)) 12 (u1 (R 12) (Int.toNat (I 5 17)) v))) H := hP
        refine lv_aload_n hx hb dX3_reading_72 rfl (lv_at hl 1 rfl) ?_
        refine fg_V_present C hin3 hE hP (List.mem_of_getElem? (i := 1) rfl) dX3_reading_73 ?_
        refine lv_iload_n hx hb dX3_reading_76 rfl (lv_at hl 0 rfl) ?_
        refine jz_const C dX3_reading_77 ?_
        refine jz_iadd C dX3_reading_78 ?_
        refine fp_T_readings C hin2 hE hP (jDC hD) hS (List.mem_of_getElem? (i := 2) rfl) dX3_reading_79 (fun H lc hP hS => ?_)
        refine lv_iload_n hx hb dX3_reading_82 rfl (lv_at hl 0 rfl) ?_
        have hk9 : k_X3_reading I R c v = (I 5 17, (u2 I 5 17 ((I 5 17) + 1)), (uR (uR R 11 (u1 (R 11) (Int.toNat (I 5 17)) c)) 12 (u1 (R 12) (Int.toNat (I 5 17)) v))) := by rw [k_X3_reading, (if_pos h8), (if_pos h19), (if_pos h34)]
        exact hret _ ((u2 I 5 17 ((I 5 17) + 1)), (uR (uR R 11 (u1 (R 11) (Int.toNat (I 5 17)) c)) 12 (u1 (R 12) (Int.toNat (I 5 17)) v))) _ _ _ _ dX3_reading_83 ⟨by rw [hk9], by rw [hk9], by rw [hk9]; exact (fun q h14 h4 => by first | rfl | exact uR_n h14 | exact uR_n h4 | exact (uR_n h14).trans (uR_n h4) | exact (uR_n h4).trans (uR_n h14))⟩ hP hS
      · skip
        refine jz_bipush C dX3_reading_37 (by decide +kernel) ?_
        have hk9 : k_X3_reading I R c v = (-4, I, R) := by rw [k_X3_reading, (if_pos h8), (if_pos h19), (if_neg (Int.not_lt.mpr h34))]
        exact hret _ (I, R) _ _ _ _ dX3_reading_39 ⟨by rw [hk9], by rw [hk9], by rw [hk9]; exact (fun q h14 h4 => by first | rfl | exact uR_n h14 | exact uR_n h4 | exact (uR_n h14).trans (uR_n h4) | exact (uR_n h4).trans (uR_n h14))⟩ hP hS
    · skip
      refine jz_bipush C dX3_reading_22 (by decide +kernel) ?_
      have hk9 : k_X3_reading I R c v = (-2, I, R) := by rw [k_X3_reading, (if_pos h8), (if_neg h19)]
      exact hret _ (I, R) _ _ _ _ dX3_reading_24 ⟨by rw [hk9], by rw [hk9], by rw [hk9]; exact (fun q h14 h4 => by first | rfl | exact uR_n h14 | exact uR_n h4 | exact (uR_n h14).trans (uR_n h4) | exact (uR_n h4).trans (uR_n h14))⟩ hP hS
  · skip
    refine jz_const C dX3_reading_11 ?_
    have hk9 : k_X3_reading I R c v = (-1, I, R) := by rw [k_X3_reading, (if_neg h8)]
    exact hret _ (I, R) _ _ _ _ dX3_reading_12 ⟨by rw [hk9], by rw [hk9], by rw [hk9]; exact (fun q h14 h4 => by first | rfl | exact uR_n h14 | exact uR_n h4 | exact (uR_n h14).trans (uR_n h4) | exact (uR_n h4).trans (uR_n h14))⟩ hP hS
def k_X3_back (I R : Nat → Nat → Int) (k : Int) : Int × (Nat → Nat → Int) × (Nat → Nat → Int) := if 0 ≤ k ∧ k ≤ (I 5 17) then (((I 5 17) - k, (u2 I 5 17 ((I 5 17) - k)), R)) else ((-2, I, R))
abbrev rm_X3_back : Room := { frames := 1, cells := 0, slots := 0, locals := 21 }
set_option maxHeartbeats 4000000 in
set_option maxRecDepth 100000 in
theorem c_X3_back {l : Launch} {D : va_G} {cI cS : ClassId} {ad : Nat → Nat} {I R : Nat → Nat → Int} {A : Nat → Prop} (hD : va_D A (wC cI cS ad I R))  (k : Int)  (hV : VI I R) (hr_k : -2147483648 ≤ k ∧ k < 2147483648): JV l yX3_back wsX3_back rm_X3_back (jB D cI cS (wC cI cS ad I R)) A [.ref (ad 0), .int (iI (k))] (fun v9 (u9 : (Nat → Nat → Int) × (Nat → Nat → Int)) => v9 = some (.int (iI (k_X3_back I R k).1)) ∧ u9.1 = (k_X3_back I R k).2.1 ∧ jq u9.2 (k_X3_back I R k).2.2) (fun u9 H => va_P D vwCl (wC cI cS ad u9.1 u9.2) H) := by
  refine JV.mkI rfl (by decide +kernel) rfl (Nat.le_of_ble_eq_true rfl) ?_
  intro p e st mi ar bl mth cd Q ls C hB hl hret
  obtain ⟨hE, hP⟩ := hB
  have hx := C.1
  have hb := C.2.1
  have hl : lv_has ls 2 [(0, .ref (ad 0)), (1, .int (iI (k)))] := hl
  have hin2 : ∀ w ∈ wsX20, w ∈ wsX3_back := fun _ h => List.mem_cons_of_mem _ (List.mem_append_right _ h)
  have hin3 : ∀ w ∈ wsX30, w ∈ wsX3_back := fun _ h => List.mem_cons_of_mem _ (List.mem_append_left _ (List.mem_append_right _ h))
  suffices hgo : ∀ (H : Heap) (lc : List Loc), va_P D vwCl (wC cI cS ad I R) H → va_S A st.heap H lc → W p l e rm_X3_back st mi ar bl mth cd H lc 0 0 Q (F0 mi 0 ls []) from hgo _ _ hP va_S.rf
  clear hP
  intro H lc hP hS
  have hT := hV.town
  have hW := hT.works
  have hK := hT.wards
  have hSt := hV.stands
  have hset := hT.set
  have hset2 := pow_bd hW hset
  have hcel := hT.cells
  have hlaw := hT.law
  have hrd := hT.reads
  have hP8 := pw8 hW
  refine lv_iload_n hx hb dX3_back_0 rfl (lv_at hl 1 rfl) ?_
  refine lv_aload_n hx hb dX3_back_1 rfl (lv_at hl 0 rfl) ?_
  refine fg_V_present C hin3 hE hP (List.mem_of_getElem? (i := 1) rfl) dX3_back_2 ?_
  refine fg_T_readings C hin2 hE hP (v := I 5 17) (List.mem_of_getElem? (i := 2) rfl) dX3_back_5 rfl ?_
  refine jc_S C hl.1 (jpreS hE hP) (c_X3_isUpTo k (I 5 17) (show -2147483648 ≤ k ∧ k < 2147483648 from (by omega)) (show -2147483648 ≤ (I 5 17) ∧ (I 5 17) < 2147483648 from (by omega))) (va_cwS 2 C.2.2.2.2 gX3_back_X3_isUpTo rfl rfl rfl (by decide +kernel) ⟨Nat.le_of_ble_eq_true rfl, Nat.le_of_ble_eq_true rfl⟩) (As := [.int (iI (k)), .int (iI (I 5 17))]) (v := .int (iI (if 0 ≤ k ∧ k ≤ (I 5 17) then 1 else 0))) (hn := rfl) (hst := rfl) (rest := []) (hW := Nat.le_of_ble_eq_true rfl) (hdg := dX3_back_8) (hf := ⟨Nat.le_of_ble_eq_true rfl, Nat.le_of_ble_eq_true rfl⟩) ?_
  refine jz_bool_ne (tgt := 17) C dX3_back_11 (by decide) (fun h11 => ?_) (fun h11 => ?_)
  · skip
    refine lv_aload_n hx hb dX3_back_17 rfl (lv_at hl 0 rfl) ?_
    refine fg_V_present C hin3 hE hP (List.mem_of_getElem? (i := 1) rfl) dX3_back_18 ?_
    refine lv_dup hx hb dX3_back_21 rfl ?_
    refine fg_T_readings C hin2 hE hP (v := I 5 17) (List.mem_of_getElem? (i := 2) rfl) dX3_back_22 rfl ?_
    refine lv_iload_n hx hb dX3_back_25 rfl (lv_at hl 1 rfl) ?_
    refine jz_isub C dX3_back_26 ?_
    refine fp_T_readings C hin2 hE hP (jDC hD) hS (List.mem_of_getElem? (i := 2) rfl) dX3_back_27 (fun H lc hP hS => ?_)
    refine lv_aload_n hx hb dX3_back_30 rfl (lv_at hl 0 rfl) ?_
    refine fg_V_present C hin3 hE hP (List.mem_of_getElem? (i := 1) rfl) dX3_back_31 ?_
    refine fg_T_readings C hin2 hE hP (v := (I 5 17) - k) (List.mem_of_getElem? (i := 2) rfl) dX3_back_34 rfl ?_
    have hk9 : k_X3_back I R k = ((I 5 17) - k, (u2 I 5 17 ((I 5 17) - k)), R) := by rw [k_X3_back, (if_pos h11)]
    exact hret _ ((u2 I 5 17 ((I 5 17) - k)), R) _ _ _ _ dX3_back_37 ⟨by rw [hk9], by rw [hk9], by rw [hk9]; exact (fun q h14 h4 => by first | rfl | exact uR_n h14 | exact uR_n h4 | exact (uR_n h14).trans (uR_n h4) | exact (uR_n h4).trans (uR_n h14))⟩ hP hS
  · skip
    refine jz_bipush C dX3_back_14 (by decide +kernel) ?_
    have hk9 : k_X3_back I R k = (-2, I, R) := by rw [k_X3_back, (if_neg h11)]
    exact hret _ (I, R) _ _ _ _ dX3_back_16 ⟨by rw [hk9], by rw [hk9], by rw [hk9]; exact (fun q h14 h4 => by first | rfl | exact uR_n h14 | exact uR_n h4 | exact (uR_n h14).trans (uR_n h4) | exact (uR_n h4).trans (uR_n h14))⟩ hP hS
def k_X3_settings (I R : Nat → Nat → Int) (w : Int) : Int := if w < (-1) then (-1) else (if (I 5 9) = 0 then (-3) else (if w = (-1) then (cn (fun y9 : Nat => ag I R (y9 : Int) (Int.toNat (I 5 17))) (2 ^ (Int.toNat (2 * I 5 13)))) else (if (cn (fun y9 : Nat => ag I R (y9 : Int) (Int.toNat (I 5 17))) (2 ^ (Int.toNat (2 * I 5 13)))) = 0 then (-9) else (if 0 ≤ w ∧ w < I 5 13 then vz (I 5 13) (fic (fun y9 : Nat => ag I R (y9 : Int) (Int.toNat (I 5 17))) (2 ^ (Int.toNat (2 * I 5 13)))) w else -9))))
abbrev rm_X3_settings : Room := { frames := 3, cells := 0, slots := 0, locals := 72 }
set_option maxHeartbeats 4000000 in
set_option maxRecDepth 100000 in
theorem c_X3_settings {l : Launch} {D : va_G} {cI cS : ClassId} {ad : Nat → Nat} {I R : Nat → Nat → Int}  (w : Int)  (hV : VI I R) (hr_w : -2147483648 ≤ w ∧ w < 2147483648): JS l yX3_settings wsX3_settings rm_X3_settings (jB D cI cS (wC cI cS ad I R)) [.ref (ad 0), .int (iI (w))] (.int (iI (k_X3_settings I R w))) := by
  refine JS.mkI rfl (by decide +kernel) rfl (Nat.le_of_ble_eq_true rfl) ?_
  intro p e st mi ar bl mth cd Q ls C hB hl hret
  obtain ⟨hE, hP⟩ := hB
  have hx := C.1
  have hb := C.2.1
  have hl : lv_has ls 5 [(0, .ref (ad 0)), (1, .int (iI (w)))] := hl
  have hin2 : ∀ w ∈ wsX20, w ∈ wsX3_settings := fun _ h => List.mem_cons_of_mem _ (List.mem_append_right _ h)
  have hin3 : ∀ w ∈ wsX30, w ∈ wsX3_settings := fun _ h => List.mem_cons_of_mem _ (List.mem_append_left _ (List.mem_append_right _ h))
  have hT := hV.town
  have hW := hT.works
  have hK := hT.wards
  have hSt := hV.stands
  have hset := hT.set
  have hset2 := pow_bd hW hset
  have hcel := hT.cells
  have hlaw := hT.law
  have hrd := hT.reads
  have hP8 := pw8 hW
  refine lv_iload_n hx hb dX3_settings_0 rfl (lv_at hl 1 rfl) ?_
  refine jz_const C dX3_settings_1 ?_
  refine jz_icmp_ge (tgt := 7) C dX3_settings_2 (by decide) (by omega) (fun h2 => ?_) (fun h2 => ?_)
  · skip
    refine lv_aload_n hx hb dX3_settings_7 rfl (lv_at hl 0 rfl) ?_
    refine fg_V_present C hin3 hE hP (List.mem_of_getElem? (i := 1) rfl) dX3_settings_8 ?_
    refine fg_T_stands C hin2 hE hP (v := I 5 9) (List.mem_of_getElem? (i := 2) rfl) dX3_settings_11 rfl ?_
    refine jz_if_ne (tgt := 20) C dX3_settings_14 (by decide) (by omega) (fun h14 => ?_) (fun h14 => ?_)
    · skip
      refine jz_bipush C dX3_settings_20 (by decide +kernel) ?_
      refine lv_istore_n (lv' := [(2, .int (iI (-9))), (0, .ref (ad 0)), (1, .int (iI (w)))]) hx hb dX3_settings_22 rfl hl (by decide) rfl (fun ls hl => ?_)
      refine jz_const C dX3_settings_23 ?_
      refine lv_istore_n (lv' := [(3, .int (iI (0))), (2, .int (iI (-9))), (0, .ref (ad 0)), (1, .int (iI (w)))]) hx hb dX3_settings_24 rfl hl (by decide) rfl (fun ls hl => ?_)
      refine jz_const C dX3_settings_25 ?_
      refine lv_istore (lv' := [(4, .int (iI (0))), (3, .int (iI (0))), (2, .int (iI (-9))), (0, .ref (ad 0)), (1, .int (iI (w)))]) hx hb dX3_settings_26 hl (by decide) rfl (fun ls hl => ?_)
      have key28 : ∀ (n28 : Nat) (t : Nat) (ht : (t : Int) ≤ 2 ^ (Int.toNat (2 * I 5 13))), (2 ^ (Int.toNat (2 * I 5 13)) - (t : Int) : Int) < n28 → ∀ (ls : Array Slot), lv_has ls 5 [(4, .int (iI ((t : Int)))), (3, .int (iI (cn (fun y9 : Nat => ag I R (y9 : Int) (Int.toNat (I 5 17))) t))), (2, .int (iI (fic (fun y9 : Nat => ag I R (y9 : Int) (Int.toNat (I 5 17))) t))), (0, .ref (ad 0)), (1, .int (iI (w)))] → W p l e rm_X3_settings st mi ar bl mth cd st.heap [] 0 0 Q (F0 mi 28 ls []) := by
        intro n28
        induction n28 with
        | zero => intro t ht hn9; exfalso; omega
        | succ n28 ih28 =>
          intro t ht hn9 ls hl
          refine lv_iload hx hb dX3_settings_28 (lv_at hl 0 rfl) ?_
          refine lv_aload_n hx hb dX3_settings_30 rfl (lv_at hl 3 rfl) ?_
          refine fg_V_present C hin3 hE hP (List.mem_of_getElem? (i := 1) rfl) dX3_settings_31 ?_
          refine jc_V C hl.1 (jpreV hE hP 2 5 rfl rfl) (c_X2_settingsInAll  hT.works) (cwV 0 C.2.2.2.2 gX3_settings_X2_settingsInAll rfl rfl rfl (by decide +kernel) ⟨Nat.le_of_ble_eq_true rfl, Nat.le_of_ble_eq_true rfl⟩) (As := []) (v := .int (iI (2 ^ (Int.toNat (2 * I 5 13))))) (hn := rfl) (hst := rfl) (rest := [.int (iI ((t : Int)))]) (hW := Nat.le_of_ble_eq_true rfl) (hdg := dX3_settings_34) (hf := ⟨Nat.le_of_ble_eq_true rfl, Nat.le_of_ble_eq_true rfl⟩) ?_
          refine jz_icmp_ge (tgt := 72) C dX3_settings_37 (by decide) (by omega) (fun h37 => ?_) (fun h37 => ?_)
          · skip
            have hg9 : t = 2 ^ (Int.toNat (2 * I 5 13)) := (by have := pwN (Int.toNat (2 * I 5 13)); omega)
            subst hg9
            have hl : lv_has ls 5 [(3, .int (iI (cn (fun y9 : Nat => ag I R (y9 : Int) (Int.toNat (I 5 17))) (2 ^ (Int.toNat (2 * I 5 13)))))), (2, .int (iI (fic (fun y9 : Nat => ag I R (y9 : Int) (Int.toNat (I 5 17))) (2 ^ (Int.toNat (2 * I 5 13)))))), (0, .ref (ad 0)), (1, .int (iI (w)))] := lv_sub hl [1, 2, 3, 4] rfl
            have hcn := cn_bd (P := (fun y9 : Nat => ag I R (y9 : Int) (Int.toNat (I 5 17)))) (n := (2 ^ (Int.toNat (2 * I 5 13))))
            have hfi := fic_bd (P := (fun y9 : Nat => ag I R (y9 : Int) (Int.toNat (I 5 17)))) (n := (2 ^ (Int.toNat (2 * I 5 13))))
            have hpw := pwN (Int.toNat (2 * I 5 13))
            refine lv_iload_n hx hb dX3_settings_72 rfl (lv_at hl 3 rfl) ?_
            refine jz_const C dX3_settings_73 ?_
            refine jz_icmp_ne (tgt := 79) C dX3_settings_74 (by decide) (by omega) (fun h74 => ?_) (fun h74 => ?_)
            · skip
              refine lv_iload_n hx hb dX3_settings_79 rfl (lv_at hl 0 rfl) ?_
              refine jz_if_ne (tgt := 88) C dX3_settings_80 (by decide) (by omega) (fun h80 => ?_) (fun h80 => ?_)
              · skip
                refine lv_aload_n hx hb dX3_settings_88 rfl (lv_at hl 2 rfl) ?_
                refine lv_iload_n hx hb dX3_settings_89 rfl (lv_at hl 1 rfl) ?_
                refine lv_iload_n hx hb dX3_settings_90 rfl (lv_at hl 3 rfl) ?_
                refine jc_V C hl.1 (jpreV hE hP 3 0 rfl rfl) (c_X3_vaneOrNone (fic (fun y9 : Nat => ag I R (y9 : Int) (Int.toNat (I 5 17))) (2 ^ (Int.toNat (2 * I 5 13)))) w hT ⟨hfi.2.2.1 h80, by have h5 := hfi.2.1; split at h5 <;> omega⟩ (show -2147483648 ≤ w ∧ w < 2147483648 from (by omega))) (cwV 2 C.2.2.2.2 gX3_settings_X3_vaneOrNone rfl rfl rfl (by decide +kernel) ⟨Nat.le_of_ble_eq_true rfl, Nat.le_of_ble_eq_true rfl⟩) (As := [.int (iI (fic (fun y9 : Nat => ag I R (y9 : Int) (Int.toNat (I 5 17))) (2 ^ (Int.toNat (2 * I 5 13))))), .int (iI (w))]) (v := .int (iI (if 0 ≤ w ∧ w < I 5 13 then vz (I 5 13) (fic (fun y9 : Nat => ag I R (y9 : Int) (Int.toNat (I 5 17))) (2 ^ (Int.toNat (2 * I 5 13)))) w else -9))) (hn := rfl) (hst := rfl) (rest := []) (hW := Nat.le_of_ble_eq_true rfl) (hdg := dX3_settings_91) (hf := ⟨Nat.le_of_ble_eq_true rfl, Nat.le_of_ble_eq_true rfl⟩) ?_
                exact jz_ret (show (k_X3_settings I R w : Int) = if 0 ≤ w ∧ w < I 5 13 then vz (I 5 13) (fic (fun y9 : Nat => ag I R (y9 : Int) (Int.toNat (I 5 17))) (2 ^ (Int.toNat (2 * I 5 13)))) w else -9 from by rw [k_X3_settings, (if_neg (Int.not_lt.mpr h2)), (if_neg (h14)), (if_neg (h74)), (if_neg (h80))]) (hret _ _ dX3_settings_94)
              · skip
                refine jz_bipush C dX3_settings_83 (by decide +kernel) ?_
                refine lv_goto (tgt := 94) hx hb dX3_settings_85 (by decide) ?_
                exact jz_ret (show (k_X3_settings I R w : Int) = -9 from by rw [k_X3_settings, (if_neg (Int.not_lt.mpr h2)), (if_neg (h14)), (if_neg (h74)), (if_pos h80)]) (hret _ _ dX3_settings_94)
            · skip
              refine lv_iload_n hx hb dX3_settings_77 rfl (lv_at hl 0 rfl) ?_
              exact jz_ret (show (k_X3_settings I R w : Int) = cn (fun y9 : Nat => ag I R (y9 : Int) (Int.toNat (I 5 17))) (2 ^ (Int.toNat (2 * I 5 13))) from by rw [k_X3_settings, (if_neg (Int.not_lt.mpr h2)), (if_neg (h14)), (if_pos h74)]) (hret _ _ dX3_settings_78)
          · skip
            have hcn := cn_bd (P := (fun y9 : Nat => ag I R (y9 : Int) (Int.toNat (I 5 17)))) (n := t)
            refine lv_aload_n hx hb dX3_settings_40 rfl (lv_at hl 3 rfl) ?_
            refine fg_V_present C hin3 hE hP (List.mem_of_getElem? (i := 1) rfl) dX3_settings_41 ?_
            refine lv_iload hx hb dX3_settings_44 (lv_at hl 0 rfl) ?_
            refine jc_V C hl.1 (jpreV hE hP 2 5 rfl rfl) (c_X2_agreesBy (t : Int) hT (show 0 ≤ (t : Int) ∧ (t : Int) < 256 from (by omega))) (cwV 1 C.2.2.2.2 gX3_settings_X2_agreesBy rfl rfl rfl (by decide +kernel) ⟨Nat.le_of_ble_eq_true rfl, Nat.le_of_ble_eq_true rfl⟩) (As := [.int (iI ((t : Int)))]) (v := .int (iI (if ag I R (t : Int) (Int.toNat (I 5 17)) = true then 1 else 0))) (hn := rfl) (hst := rfl) (rest := []) (hW := Nat.le_of_ble_eq_true rfl) (hdg := dX3_settings_46) (hf := ⟨Nat.le_of_ble_eq_true rfl, Nat.le_of_ble_eq_true rfl⟩) ?_
            refine jz_bool_eq (tgt := 66) C dX3_settings_49 (by decide) (fun h49 => ?_) (fun h49 => ?_)
            · skip
              refine jz_iinc (k := 0) (z := (t : Int) + 1) (lv' := [(4, .int (iI ((t : Int) + 1))), (3, .int (iI (cn (fun y9 : Nat => ag I R (y9 : Int) (Int.toNat (I 5 17))) t))), (2, .int (iI (fic (fun y9 : Nat => ag I R (y9 : Int) (Int.toNat (I 5 17))) t))), (0, .ref (ad 0)), (1, .int (iI (w)))]) C dX3_settings_66 hl rfl rfl (by decide) rfl (fun ls hl => ?_)
              refine lv_goto (tgt := 28) hx hb dX3_settings_69 (by decide) ?_
              have hl9 : lv_has ls 5 [(4, .int (iI ((t + 1 : Int)))), (3, .int (iI (cn (fun y9 : Nat => ag I R (y9 : Int) (Int.toNat (I 5 17))) (t + 1)))), (2, .int (iI (fic (fun y9 : Nat => ag I R (y9 : Int) (Int.toNat (I 5 17))) (t + 1)))), (0, .ref (ad 0)), (1, .int (iI (w)))] := by
                rw [show (cn (fun y9 : Nat => ag I R (y9 : Int) (Int.toNat (I 5 17))) (t + 1) : Int) = cn (fun y9 : Nat => ag I R (y9 : Int) (Int.toNat (I 5 17))) t from by first | exact cn_t (P := (fun y9 : Nat => ag I R (y9 : Int) (Int.toNat (I 5 17)))) (n := t) h49 | exact cn_f (P := (fun y9 : Nat => ag I R (y9 : Int) (Int.toNat (I 5 17)))) (n := t) h49]
                rw [show (fic (fun y9 : Nat => ag I R (y9 : Int) (Int.toNat (I 5 17))) (t + 1) : Int) = fic (fun y9 : Nat => ag I R (y9 : Int) (Int.toNat (I 5 17))) t from by first | exact fic_t (P := (fun y9 : Nat => ag I R (y9 : Int) (Int.toNat (I 5 17)))) (n := t) h49 | exact fic_f (P := (fun y9 : Nat => ag I R (y9 : Int) (Int.toNat (I 5 17)))) (n := t) h49]
                exact lv_sub hl [0, 1, 2, 3, 4] rfl
              exact ih28 (t + 1) (by omega) (by omega) ls hl9
            · skip
              refine lv_iload_n hx hb dX3_settings_52 rfl (lv_at hl 1 rfl) ?_
              refine jz_cut (X := ∀ ls : Array Slot, lv_has ls 5 [(4, .int (iI ((t : Int)))), (3, .int (iI (cn (fun y9 : Nat => ag I R (y9 : Int) (Int.toNat (I 5 17))) t))), (2, .int (iI (fic (fun y9 : Nat => ag I R (y9 : Int) (Int.toNat (I 5 17))) t))), (0, .ref (ad 0)), (1, .int (iI (w)))] → W p l e rm_X3_settings st mi ar bl mth cd st.heap [] 0 0 Q (F0 mi 62 ls [.int (iI (if cn (fun y9 : Nat => ag I R (y9 : Int) (Int.toNat (I 5 17))) t = 0 then (t : Int) else fic (fun y9 : Nat => ag I R (y9 : Int) (Int.toNat (I 5 17))) t))])) (fun ls hl => ?_) (fun hj53 => ?_)
              · skip
                refine lv_istore_n (lv' := [(2, .int (iI (if cn (fun y9 : Nat => ag I R (y9 : Int) (Int.toNat (I 5 17))) t = 0 then (t : Int) else fic (fun y9 : Nat => ag I R (y9 : Int) (Int.toNat (I 5 17))) t))), (4, .int (iI ((t : Int)))), (3, .int (iI (cn (fun y9 : Nat => ag I R (y9 : Int) (Int.toNat (I 5 17))) t))), (0, .ref (ad 0)), (1, .int (iI (w)))]) hx hb dX3_settings_62 rfl hl (by decide) rfl (fun ls hl => ?_)
                refine jz_iinc (k := 2) (z := cn (fun y9 : Nat => ag I R (y9 : Int) (Int.toNat (I 5 17))) t + 1) (lv' := [(3, .int (iI (cn (fun y9 : Nat => ag I R (y9 : Int) (Int.toNat (I 5 17))) t + 1))), (2, .int (iI (if cn (fun y9 : Nat => ag I R (y9 : Int) (Int.toNat (I 5 17))) t = 0 then (t : Int) else fic (fun y9 : Nat => ag I R (y9 : Int) (Int.toNat (I 5 17))) t))), (4, .int (iI ((t : Int)))), (0, .ref (ad 0)), (1, .int (iI (w)))]) C dX3_settings_63 hl rfl rfl (by decide) rfl (fun ls hl => ?_)
                refine jz_iinc (k := 2) (z := (t : Int) + 1) (lv' := [(4, .int (iI ((t : Int) + 1))), (3, .int (iI (cn (fun y9 : Nat => ag I R (y9 : Int) (Int.toNat (I 5 17))) t + 1))), (2, .int (iI (if cn (fun y9 : Nat => ag I R (y9 : Int) (Int.toNat (I 5 17))) t = 0 then (t : Int) else fic (fun y9 : Nat => ag I R (y9 : Int) (Int.toNat (I 5 17))) t))), (0, .ref (ad 0)), (1, .int (iI (w)))]) C dX3_settings_66 hl rfl rfl (by decide) rfl (fun ls hl => ?_)
                refine lv_goto (tgt := 28) hx hb dX3_settings_69 (by decide) ?_
                have hl9 : lv_has ls 5 [(4, .int (iI ((t + 1 : Int)))), (3, .int (iI (cn (fun y9 : Nat => ag I R (y9 : Int) (Int.toNat (I 5 17))) (t + 1)))), (2, .int (iI (fic (fun y9 : Nat => ag I R (y9 : Int) (Int.toNat (I 5 17))) (t + 1)))), (0, .ref (ad 0)), (1, .int (iI (w)))] := by
                  rw [show (cn (fun y9 : Nat => ag I R (y9 : Int) (Int.toNat (I 5 17))) (t + 1) : Int) = cn (fun y9 : Nat => ag I R (y9 : Int) (Int.toNat (I 5 17))) t + 1 from by first | exact cn_t (P := (fun y9 : Nat => ag I R (y9 : Int) (Int.toNat (I 5 17)))) (n := t) h49 | exact cn_f (P := (fun y9 : Nat => ag I R (y9 : Int) (Int.toNat (I 5 17)))) (n := t) h49]
                  rw [show (fic (fun y9 : Nat => ag I R (y9 : Int) (Int.toNat (I 5 17))) (t + 1) : Int) = if cn (fun y9 : Nat => ag I R (y9 : Int) (Int.toNat (I 5 17))) t = 0 then (t : Int) else fic (fun y9 : Nat => ag I R (y9 : Int) (Int.toNat (I 5 17))) t from by first | exact fic_t (P := (fun y9 : Nat => ag I R (y9 : Int) (Int.toNat (I 5 17)))) (n := t) h49 | exact fic_f (P := (fun y9 : Nat => ag I R (y9 : Int) (Int.toNat (I 5 17)))) (n := t) h49]
                  exact lv_sub hl [0, 1, 2, 3, 4] rfl
                exact ih28 (t + 1) (by omega) (by omega) ls hl9
              · skip
                refine jz_if_ne (tgt := 61) C dX3_settings_53 (by decide) (by omega) (fun h53 => ?_) (fun h53 => ?_)
                · skip
                  refine lv_iload_n hx hb dX3_settings_61 rfl (lv_at hl 2 rfl) ?_
                  have hl9 : lv_has ls 5 [(4, .int (iI ((t : Int)))), (3, .int (iI (cn (fun y9 : Nat => ag I R (y9 : Int) (Int.toNat (I 5 17))) t))), (2, .int (iI (fic (fun y9 : Nat => ag I R (y9 : Int) (Int.toNat (I 5 17))) t))), (0, .ref (ad 0)), (1, .int (iI (w)))] := lv_sub hl [0, 1, 2, 3, 4] rfl
                  have hj9 := hj53 ls hl9
                  rw [show (if cn (fun y9 : Nat => ag I R (y9 : Int) (Int.toNat (I 5 17))) t = 0 then (t : Int) else fic (fun y9 : Nat => ag I R (y9 : Int) (Int.toNat (I 5 17))) t : Int) = fic (fun y9 : Nat => ag I R (y9 : Int) (Int.toNat (I 5 17))) t from by first | rfl | exact if_pos (by assumption) | exact if_neg (by assumption) | exact (if_pos (by assumption)).symm | exact (if_neg (by assumption)).symm | omega | (simp only [*, if_true, if_false, not_true, not_false_iff]; done) | (simp [*]; done) | (split <;> omega)] at hj9
                  exact hj9
                · skip
                  refine lv_iload hx hb dX3_settings_56 (lv_at hl 0 rfl) ?_
                  refine lv_goto (tgt := 62) hx hb dX3_settings_58 (by decide) ?_
                  have hl9 : lv_has ls 5 [(4, .int (iI ((t : Int)))), (3, .int (iI (cn (fun y9 : Nat => ag I R (y9 : Int) (Int.toNat (I 5 17))) t))), (2, .int (iI (fic (fun y9 : Nat => ag I R (y9 : Int) (Int.toNat (I 5 17))) t))), (0, .ref (ad 0)), (1, .int (iI (w)))] := lv_sub hl [0, 1, 2, 3, 4] rfl
                  have hj9 := hj53 ls hl9
                  rw [show (if cn (fun y9 : Nat => ag I R (y9 : Int) (Int.toNat (I 5 17))) t = 0 then (t : Int) else fic (fun y9 : Nat => ag I R (y9 : Int) (Int.toNat (I 5 17))) t : Int) = (t : Int) from by first | rfl | exact if_pos (by assumption) | exact if_neg (by assumption) | exact (if_pos (by assumption)).symm | exact (if_neg (by assumption)).symm | omega | (simp only [*, if_true, if_false, not_true, not_false_iff]; done) | (simp [*]; done) | (split <;> omega)] at hj9
                  exact hj9
      exact key28 (Int.toNat (2 ^ (Int.toNat (2 * I 5 13)) - (0 : Int)) + 1) 0 (by omega) (by omega) ls (lv_sub hl [0, 1, 2, 3, 4] rfl)
    · skip
      refine jz_bipush C dX3_settings_17 (by decide +kernel) ?_
      exact jz_ret (show (k_X3_settings I R w : Int) = -3 from by rw [k_X3_settings, (if_neg (Int.not_lt.mpr h2)), (if_pos h14)]) (hret _ _ dX3_settings_19)
  · skip
    refine jz_const C dX3_settings_5 ?_
    exact jz_ret (show (k_X3_settings I R w : Int) = -1 from by rw [k_X3_settings, (if_pos h2)]) (hret _ _ dX3_settings_6)
def k_X3_laws (I R : Nat → Nat → Int)  : Int × (Nat → Nat → Int) × (Nat → Nat → Int) := if (I 5 9) = 0 then ((-3, I, R)) else ((bs (fun y9 : Nat => ag (u2 I 5 15 (y9 : Int)) R (I 5 16) (Int.toNat (I 5 17))) (3), I, R))
abbrev rm_X3_laws : Room := { frames := 3, cells := 0, slots := 0, locals := 72 }
set_option maxHeartbeats 4000000 in
set_option maxRecDepth 100000 in
theorem c_X3_laws {l : Launch} {D : va_G} {cI cS : ClassId} {ad : Nat → Nat} {I R : Nat → Nat → Int} {A : Nat → Prop} (hD : va_D A (wC cI cS ad I R))    (hV : VI I R): JV l yX3_laws wsX3_laws rm_X3_laws (jB D cI cS (wC cI cS ad I R)) A [.ref (ad 0)] (fun v9 (u9 : (Nat → Nat → Int) × (Nat → Nat → Int)) => v9 = some (.int (iI (k_X3_laws I R).1)) ∧ u9.1 = (k_X3_laws I R).2.1 ∧ jq u9.2 (k_X3_laws I R).2.2) (fun u9 H => va_P D vwCl (wC cI cS ad u9.1 u9.2) H) := by
  refine JV.mkI rfl (by decide +kernel) rfl (Nat.le_of_ble_eq_true rfl) ?_
  intro p e st mi ar bl mth cd Q ls C hB hl hret
  obtain ⟨hE, hP⟩ := hB
  have hx := C.1
  have hb := C.2.1
  have hl : lv_has ls 4 [(0, .ref (ad 0))] := hl
  have hin2 : ∀ w ∈ wsX20, w ∈ wsX3_laws := fun _ h => List.mem_cons_of_mem _ (List.mem_append_right _ h)
  have hin3 : ∀ w ∈ wsX30, w ∈ wsX3_laws := fun _ h => List.mem_cons_of_mem _ (List.mem_append_left _ (List.mem_append_right _ h))
  suffices hgo : ∀ (H : Heap) (lc : List Loc), va_P D vwCl (wC cI cS ad I R) H → va_S A st.heap H lc → W p l e rm_X3_laws st mi ar bl mth cd H lc 0 0 Q (F0 mi 0 ls []) from hgo _ _ hP va_S.rf
  clear hP
  intro H lc hP hS
  have hT := hV.town
  have hW := hT.works
  have hK := hT.wards
  have hSt := hV.stands
  have hset := hT.set
  have hset2 := pow_bd hW hset
  have hcel := hT.cells
  have hlaw := hT.law
  have hrd := hT.reads
  have hP8 := pw8 hW
  refine lv_aload_n hx hb dX3_laws_0 rfl (lv_at hl 0 rfl) ?_
  refine fg_V_present C hin3 hE hP (List.mem_of_getElem? (i := 1) rfl) dX3_laws_1 ?_
  refine fg_T_stands C hin2 hE hP (v := I 5 9) (List.mem_of_getElem? (i := 2) rfl) dX3_laws_4 rfl ?_
  refine jz_if_ne (tgt := 13) C dX3_laws_7 (by decide) (by omega) (fun h7 => ?_) (fun h7 => ?_)
  · skip
    refine lv_aload_n hx hb dX3_laws_13 rfl (lv_at hl 0 rfl) ?_
    refine fg_V_present C hin3 hE hP (List.mem_of_getElem? (i := 1) rfl) dX3_laws_14 ?_
    refine fg_T_lawNow C hin2 hE hP (v := I 5 15) (List.mem_of_getElem? (i := 3) rfl) dX3_laws_17 rfl ?_
    refine lv_istore_n (lv' := [(1, .int (iI (I 5 15))), (0, .ref (ad 0))]) hx hb dX3_laws_20 rfl hl (by decide) rfl (fun ls hl => ?_)
    refine jz_const C dX3_laws_21 ?_
    refine lv_istore_n (lv' := [(2, .int (iI (0))), (1, .int (iI (I 5 15))), (0, .ref (ad 0))]) hx hb dX3_laws_22 rfl hl (by decide) rfl (fun ls hl => ?_)
    refine jz_const C dX3_laws_23 ?_
    refine lv_istore_n (lv' := [(3, .int (iI (0))), (2, .int (iI (0))), (1, .int (iI (I 5 15))), (0, .ref (ad 0))]) hx hb dX3_laws_24 rfl hl (by decide) rfl (fun ls hl => ?_)
    have key25 : ∀ (n25 : Nat) (v : Nat) (x : Int) (hv3 : v ≤ 3), (3 - (v : Int) : Int) < n25 → ∀ (H : Heap) (lc : List Loc), va_P D vwCl (wC cI cS ad (u2 I 5 15 x) R) H → va_S A st.heap H lc → ∀ (ls : Array Slot), lv_has ls 4 [(3, .int (iI ((v : Int)))), (2, .int (iI (bs (fun y9 : Nat => ag (u2 I 5 15 (y9 : Int)) R (I 5 16) (Int.toNat (I 5 17))) v))), (1, .int (iI (I 5 15))), (0, .ref (ad 0))] → W p l e rm_X3_laws st mi ar bl mth cd H lc 0 0 Q (F0 mi 25 ls []) := by
      intro n25
      induction n25 with
      | zero => intro v x hv3 hn9; exfalso; omega
      | succ n25 ih25 =>
        intro v x hv3 hn9 H lc hP hS ls hl
        refine lv_iload_n hx hb dX3_laws_25 rfl (lv_at hl 0 rfl) ?_
        refine jz_const C dX3_laws_26 ?_
        refine jz_icmp_ge (tgt := 67) C dX3_laws_27 (by decide) (by omega) (fun h27 => ?_) (fun h27 => ?_)
        · skip
          have hg9 : v = 3 := (by omega)
          subst hg9
          have hl : lv_has ls 4 [(2, .int (iI (bs (fun y9 : Nat => ag (u2 I 5 15 (y9 : Int)) R (I 5 16) (Int.toNat (I 5 17))) (3)))), (1, .int (iI (I 5 15))), (0, .ref (ad 0))] := lv_sub hl [1, 2, 3] rfl
          refine lv_aload_n hx hb dX3_laws_67 rfl (lv_at hl 2 rfl) ?_
          refine fg_V_present C hin3 hE hP (List.mem_of_getElem? (i := 1) rfl) dX3_laws_68 ?_
          refine lv_iload_n hx hb dX3_laws_71 rfl (lv_at hl 1 rfl) ?_
          refine fp_T_lawNow C hin2 hE hP (jDC hD) hS (List.mem_of_getElem? (i := 3) rfl) dX3_laws_72 (fun H lc hP hS => ?_)
          have hP : va_P D vwCl (wC cI cS ad I R) H := by rw [u2_u, u2_id] at hP; exact hP
          refine lv_iload_n hx hb dX3_laws_75 rfl (lv_at hl 0 rfl) ?_
          have hk9 : k_X3_laws I R = (bs (fun y9 : Nat => ag (u2 I 5 15 (y9 : Int)) R (I 5 16) (Int.toNat (I 5 17))) (3), I, R) := by rw [k_X3_laws, (if_neg (h7))]
          exact hret _ (I, R) _ _ _ _ dX3_laws_76 ⟨by rw [hk9], by rw [hk9], by rw [hk9]; exact (fun q h14 h4 => by first | rfl | exact uR_n h14 | exact uR_n h4 | exact (uR_n h14).trans (uR_n h4) | exact (uR_n h4).trans (uR_n h14))⟩ hP hS
        · skip
          refine lv_aload_n hx hb dX3_laws_30 rfl (lv_at hl 3 rfl) ?_
          refine fg_V_present C hin3 hE hP (List.mem_of_getElem? (i := 1) rfl) dX3_laws_31 ?_
          refine lv_iload_n hx hb dX3_laws_34 rfl (lv_at hl 0 rfl) ?_
          refine fp_T_lawNow C hin2 hE hP (jDC hD) hS (List.mem_of_getElem? (i := 3) rfl) dX3_laws_35 (fun H lc hP hS => ?_)
          have hP : va_P D vwCl (wC cI cS ad (u2 I 5 15 (v : Int)) R) H := by rw [u2_u] at hP; exact hP
          refine lv_aload_n hx hb dX3_laws_38 rfl (lv_at hl 3 rfl) ?_
          refine fg_V_present C hin3 hE hP (List.mem_of_getElem? (i := 1) rfl) dX3_laws_39 ?_
          refine lv_aload_n hx hb dX3_laws_42 rfl (lv_at hl 3 rfl) ?_
          refine fg_V_present C hin3 hE hP (List.mem_of_getElem? (i := 1) rfl) dX3_laws_43 ?_
          refine fg_T_setting C hin2 hE hP (v := I 5 16) (List.mem_of_getElem? (i := 4) rfl) dX3_laws_46 rfl ?_
          refine jc_V C hl.1 (jpreV hE hP 2 5 rfl rfl) (c_X2_agreesBy (I 5 16) (TI_law hT (by omega)) (show 0 ≤ (I 5 16) ∧ (I 5 16) < 256 from (by omega))) (cwV 1 C.2.2.2.2 gX3_laws_X2_agreesBy rfl rfl rfl (by decide +kernel) ⟨Nat.le_of_ble_eq_true rfl, Nat.le_of_ble_eq_true rfl⟩) (As := [.int (iI (I 5 16))]) (v := .int (iI (if ag (u2 I 5 15 (v : Int)) R (I 5 16) (Int.toNat (I 5 17)) = true then 1 else 0))) (hn := rfl) (hst := rfl) (rest := []) (hW := Nat.le_of_ble_eq_true rfl) (hdg := dX3_laws_49) (hf := ⟨Nat.le_of_ble_eq_true rfl, Nat.le_of_ble_eq_true rfl⟩) ?_
          refine jz_bool_eq (tgt := 61) C dX3_laws_52 (by decide) (fun h52 => ?_) (fun h52 => ?_)
          · skip
            refine jz_iinc (k := 0) (z := (v : Int) + 1) (lv' := [(3, .int (iI ((v : Int) + 1))), (2, .int (iI (bs (fun y9 : Nat => ag (u2 I 5 15 (y9 : Int)) R (I 5 16) (Int.toNat (I 5 17))) v))), (1, .int (iI (I 5 15))), (0, .ref (ad 0))]) C dX3_laws_61 hl rfl rfl (by decide) rfl (fun ls hl => ?_)
            refine lv_goto (tgt := 25) hx hb dX3_laws_64 (by decide) ?_
            have hl9 : lv_has ls 4 [(3, .int (iI ((v + 1 : Int)))), (2, .int (iI (bs (fun y9 : Nat => ag (u2 I 5 15 (y9 : Int)) R (I 5 16) (Int.toNat (I 5 17))) (v + 1)))), (1, .int (iI (I 5 15))), (0, .ref (ad 0))] := by
              rw [show (bs (fun y9 : Nat => ag (u2 I 5 15 (y9 : Int)) R (I 5 16) (Int.toNat (I 5 17))) (v + 1) : Int) = bs (fun y9 : Nat => ag (u2 I 5 15 (y9 : Int)) R (I 5 16) (Int.toNat (I 5 17))) v from by first | exact bs_t (P := (fun y9 : Nat => ag (u2 I 5 15 (y9 : Int)) R (I 5 16) (Int.toNat (I 5 17)))) (n := v) h52 | exact bs_f (P := (fun y9 : Nat => ag (u2 I 5 15 (y9 : Int)) R (I 5 16) (Int.toNat (I 5 17)))) (n := v) h52]
              exact lv_sub hl [0, 1, 2, 3] rfl
            exact ih25 (v + 1) (v : Int) (by omega) (by omega) _ _ hP hS ls hl9
          · skip
            refine lv_iload_n hx hb dX3_laws_55 rfl (lv_at hl 1 rfl) ?_
            refine jz_const C dX3_laws_56 ?_
            refine lv_iload_n hx hb dX3_laws_57 rfl (lv_at hl 0 rfl) ?_
            refine lv_ishl hx hb dX3_laws_58 ?_
            refine lv_ior hx hb dX3_laws_59 ?_
            rw [jz_or1 (by omega) bs_bd]
            refine lv_istore_n (lv' := [(2, .int (iI ((bs (fun y9 : Nat => ag (u2 I 5 15 (y9 : Int)) R (I 5 16) (Int.toNat (I 5 17))) v) + 1 * 2 ^ v))), (3, .int (iI ((v : Int)))), (1, .int (iI (I 5 15))), (0, .ref (ad 0))]) hx hb dX3_laws_60 rfl hl (by decide) rfl (fun ls hl => ?_)
            refine jz_iinc (k := 1) (z := (v : Int) + 1) (lv' := [(3, .int (iI ((v : Int) + 1))), (2, .int (iI ((bs (fun y9 : Nat => ag (u2 I 5 15 (y9 : Int)) R (I 5 16) (Int.toNat (I 5 17))) v) + 1 * 2 ^ v))), (1, .int (iI (I 5 15))), (0, .ref (ad 0))]) C dX3_laws_61 hl rfl rfl (by decide) rfl (fun ls hl => ?_)
            refine lv_goto (tgt := 25) hx hb dX3_laws_64 (by decide) ?_
            have hl9 : lv_has ls 4 [(3, .int (iI ((v + 1 : Int)))), (2, .int (iI (bs (fun y9 : Nat => ag (u2 I 5 15 (y9 : Int)) R (I 5 16) (Int.toNat (I 5 17))) (v + 1)))), (1, .int (iI (I 5 15))), (0, .ref (ad 0))] := by
              rw [show (bs (fun y9 : Nat => ag (u2 I 5 15 (y9 : Int)) R (I 5 16) (Int.toNat (I 5 17))) (v + 1) : Int) = (bs (fun y9 : Nat => ag (u2 I 5 15 (y9 : Int)) R (I 5 16) (Int.toNat (I 5 17))) v) + 1 * 2 ^ v from by first | exact bs_t (P := (fun y9 : Nat => ag (u2 I 5 15 (y9 : Int)) R (I 5 16) (Int.toNat (I 5 17)))) (n := v) h52 | exact bs_f (P := (fun y9 : Nat => ag (u2 I 5 15 (y9 : Int)) R (I 5 16) (Int.toNat (I 5 17)))) (n := v) h52]
              exact lv_sub hl [0, 1, 2, 3] rfl
            exact ih25 (v + 1) (v : Int) (by omega) (by omega) _ _ hP hS ls hl9
    exact key25 (Int.toNat (3 - (0 : Int)) + 1) 0 (I 5 15) (by omega) (by omega) _ _ (by rw [u2_id]; exact hP) hS ls (lv_sub hl [0, 1, 2, 3] rfl)
  · skip
    refine jz_bipush C dX3_laws_10 (by decide +kernel) ?_
    have hk9 : k_X3_laws I R = (-3, I, R) := by rw [k_X3_laws, (if_pos h7)]
    exact hret _ (I, R) _ _ _ _ dX3_laws_12 ⟨by rw [hk9], by rw [hk9], by rw [hk9]; exact (fun q h14 h4 => by first | rfl | exact uR_n h14 | exact uR_n h4 | exact (uR_n h14).trans (uR_n h4) | exact (uR_n h4).trans (uR_n h14))⟩ hP hS
def k_X3_powers (I R : Nat → Nat → Int) (w : Int) : Int × (Nat → Nat → Int) × (Nat → Nat → Int) := if 0 ≤ w ∧ w < I 5 13 then ((bs (fun y9 : Nat => !(y9 == 0) && ag I (uR R 10 (u1 (R 10) (Int.toNat w) (y9 : Int))) (I 5 16) (Int.toNat (I 5 17))) (10), I, R)) else ((-1, I, R))
abbrev rm_X3_powers : Room := { frames := 3, cells := 0, slots := 0, locals := 72 }
set_option maxHeartbeats 4000000 in
set_option maxRecDepth 100000 in
theorem c_X3_powers {l : Launch} {D : va_G} {cI cS : ClassId} {ad : Nat → Nat} {I R : Nat → Nat → Int} {A : Nat → Prop} (hD : va_D A (wC cI cS ad I R))  (w : Int)  (hV : VI I R) (hr_w : -2147483648 ≤ w ∧ w < 2147483648): JV l yX3_powers wsX3_powers rm_X3_powers (jB D cI cS (wC cI cS ad I R)) A [.ref (ad 0), .int (iI (w))] (fun v9 (u9 : (Nat → Nat → Int) × (Nat → Nat → Int)) => v9 = some (.int (iI (k_X3_powers I R w).1)) ∧ u9.1 = (k_X3_powers I R w).2.1 ∧ jq u9.2 (k_X3_powers I R w).2.2) (fun u9 H => va_P D vwCl (wC cI cS ad u9.1 u9.2) H) := by
  refine JV.mkI rfl (by decide +kernel) rfl (Nat.le_of_ble_eq_true rfl) ?_
  intro p e st mi ar bl mth cd Q ls C hB hl hret
  obtain ⟨hE, hP⟩ := hB
  have hx := C.1
  have hb := C.2.1
  have hl : lv_has ls 5 [(0, .ref (ad 0)), (1, .int (iI (w)))] := hl
  have hin2 : ∀ w ∈ wsX20, w ∈ wsX3_powers := fun _ h => List.mem_cons_of_mem _ (List.mem_append_right _ h)
  have hin3 : ∀ w ∈ wsX30, w ∈ wsX3_powers := fun _ h => List.mem_cons_of_mem _ (List.mem_append_left _ (List.mem_append_right _ h))
  suffices hgo : ∀ (H : Heap) (lc : List Loc), va_P D vwCl (wC cI cS ad I R) H → va_S A st.heap H lc → W p l e rm_X3_powers st mi ar bl mth cd H lc 0 0 Q (F0 mi 0 ls []) from hgo _ _ hP va_S.rf
  clear hP
  intro H lc hP hS
  have hT := hV.town
  have hW := hT.works
  have hK := hT.wards
  have hSt := hV.stands
  have hset := hT.set
  have hset2 := pow_bd hW hset
  have hcel := hT.cells
  have hlaw := hT.law
  have hrd := hT.reads
  have hP8 := pw8 hW
  refine lv_aload_n hx hb dX3_powers_0 rfl (lv_at hl 0 rfl) ?_
  refine fg_V_present C hin3 hE hP (List.mem_of_getElem? (i := 1) rfl) dX3_powers_1 ?_
  refine lv_iload_n hx hb dX3_powers_4 rfl (lv_at hl 1 rfl) ?_
  refine jc_V C hl.1 (jpreV hE hP 2 5 rfl rfl) (c_X2_hasWork w (show -2147483648 ≤ w ∧ w < 2147483648 from (by omega)) hT.works) (cwV 1 C.2.2.2.2 gX3_powers_X2_hasWork rfl rfl rfl (by decide +kernel) ⟨Nat.le_of_ble_eq_true rfl, Nat.le_of_ble_eq_true rfl⟩) (As := [.int (iI (w))]) (v := .int (iI (if 0 ≤ w ∧ w < I 5 13 then 1 else 0))) (hn := rfl) (hst := rfl) (rest := []) (hW := Nat.le_of_ble_eq_true rfl) (hdg := dX3_powers_5) (hf := ⟨Nat.le_of_ble_eq_true rfl, Nat.le_of_ble_eq_true rfl⟩) ?_
  refine jz_bool_ne (tgt := 13) C dX3_powers_8 (by decide) (fun h8 => ?_) (fun h8 => ?_)
  · skip
    refine lv_aload_n hx hb dX3_powers_13 rfl (lv_at hl 0 rfl) ?_
    refine fg_V_present C hin3 hE hP (List.mem_of_getElem? (i := 1) rfl) dX3_powers_14 ?_
    refine fg_T_strengths C hin2 hE hP (List.mem_of_getElem? (i := 2) rfl) dX3_powers_17 ?_
    refine lv_iload_n hx hb dX3_powers_20 rfl (lv_at hl 1 rfl) ?_
    refine jc_S C hl.1 (jpreS hE hP) (c_X3_read w 10 4 (R 10) (ad 10) rfl (by decide) (show 0 ≤ w ∧ w < 4 from (by omega))) (va_cwS 2 C.2.2.2.2 gX3_powers_X3_read rfl rfl rfl (by decide +kernel) ⟨Nat.le_of_ble_eq_true rfl, Nat.le_of_ble_eq_true rfl⟩) (As := [.ref (ad 10), .int (iI (w))]) (v := .int (iI (R 10 (Int.toNat w)))) (hn := rfl) (hst := rfl) (rest := []) (hW := Nat.le_of_ble_eq_true rfl) (hdg := dX3_powers_21) (hf := ⟨Nat.le_of_ble_eq_true rfl, Nat.le_of_ble_eq_true rfl⟩) ?_
    refine lv_istore_n (lv' := [(2, .int (iI (R 10 (Int.toNat w)))), (0, .ref (ad 0)), (1, .int (iI (w)))]) hx hb dX3_powers_24 rfl hl (by decide) rfl (fun ls hl => ?_)
    refine jz_const C dX3_powers_25 ?_
    refine lv_istore_n (lv' := [(3, .int (iI (0))), (2, .int (iI (R 10 (Int.toNat w)))), (0, .ref (ad 0)), (1, .int (iI (w)))]) hx hb dX3_powers_26 rfl hl (by decide) rfl (fun ls hl => ?_)
    refine jz_const C dX3_powers_27 ?_
    refine lv_istore (lv' := [(4, .int (iI (1))), (3, .int (iI (0))), (2, .int (iI (R 10 (Int.toNat w)))), (0, .ref (ad 0)), (1, .int (iI (w)))]) hx hb dX3_powers_28 hl (by decide) rfl (fun ls hl => ?_)
    have key30 : ∀ (n30 : Nat) (v : Nat) (x : Int) (hv9 : 1 ≤ v ∧ v ≤ 10), (10 - (v : Int) : Int) < n30 → ∀ (H : Heap) (lc : List Loc), va_P D vwCl (wC cI cS ad I (uR R 10 (u1 (R 10) (Int.toNat w) x))) H → va_S A st.heap H lc → ∀ (ls : Array Slot), lv_has ls 5 [(4, .int (iI ((v : Int)))), (3, .int (iI (bs (fun y9 : Nat => !(y9 == 0) && ag I (uR R 10 (u1 (R 10) (Int.toNat w) (y9 : Int))) (I 5 16) (Int.toNat (I 5 17))) v))), (2, .int (iI (R 10 (Int.toNat w)))), (0, .ref (ad 0)), (1, .int (iI (w)))] → W p l e rm_X3_powers st mi ar bl mth cd H lc 0 0 Q (F0 mi 30 ls []) := by
      intro n30
      induction n30 with
      | zero => intro v x hv9 hn9; exfalso; omega
      | succ n30 ih30 =>
        intro v x hv9 hn9 H lc hP hS ls hl
        refine lv_iload hx hb dX3_powers_30 (lv_at hl 0 rfl) ?_
        refine jz_bipush C dX3_powers_32 (by decide +kernel) ?_
        refine jz_icmp_gt (tgt := 80) C dX3_powers_34 (by decide) (by omega) (fun h34 => ?_) (fun h34 => ?_)
        · skip
          have hg9 : v = 10 := (by omega)
          subst hg9
          have hl : lv_has ls 5 [(3, .int (iI (bs (fun y9 : Nat => !(y9 == 0) && ag I (uR R 10 (u1 (R 10) (Int.toNat w) (y9 : Int))) (I 5 16) (Int.toNat (I 5 17))) (10)))), (2, .int (iI (R 10 (Int.toNat w)))), (0, .ref (ad 0)), (1, .int (iI (w)))] := lv_sub hl [1, 2, 3, 4] rfl
          refine lv_aload_n hx hb dX3_powers_80 rfl (lv_at hl 2 rfl) ?_
          refine fg_V_present C hin3 hE hP (List.mem_of_getElem? (i := 1) rfl) dX3_powers_81 ?_
          refine fg_T_strengths C hin2 hE hP (List.mem_of_getElem? (i := 2) rfl) dX3_powers_84 ?_
          refine lv_iload_n hx hb dX3_powers_87 rfl (lv_at hl 3 rfl) ?_
          refine lv_iload_n hx hb dX3_powers_88 rfl (lv_at hl 1 rfl) ?_
          refine jw_S C hl.1 (jpreS hE hP) (c_X3_write (A := A) (jDC hD) w (R 10 (Int.toNat w)) 10 4 (u1 (R 10) (Int.toNat w) x) (ad 10) rfl (by decide) (show 0 ≤ w ∧ w < 4 from (by omega))) (va_cwS 3 C.2.2.2.2 gX3_powers_X3_write rfl rfl rfl (by decide +kernel) ⟨Nat.le_of_ble_eq_true rfl, Nat.le_of_ble_eq_true rfl⟩) (As := [.ref (ad 10), .int (iI (w)), .int (iI (R 10 (Int.toNat w)))]) (hn := rfl) (hst := rfl) (rest := []) (hW := Nat.le_of_ble_eq_true rfl) (hdg := dX3_powers_89) (hf := ⟨Nat.le_of_ble_eq_true rfl, Nat.le_of_ble_eq_true rfl⟩) hS (fun v9 uq89 H lc hq9 hP hS => ?_)
          subst hq9
          have hP : va_P D vwCl (wC cI cS ad I (uR (uR R 10 (u1 (R 10) (Int.toNat w) x)) 10 (u1 (u1 (R 10) (Int.toNat w) x) (Int.toNat w) (R 10 (Int.toNat w))))) H := hP
          have hP : va_P D vwCl (wC cI cS ad I R) H := by rw [uR_u, u1_u, u1_id, uR_id] at hP; exact hP
          refine lv_iload_n hx hb dX3_powers_92 rfl (lv_at hl 0 rfl) ?_
          have hk9 : k_X3_powers I R w = (bs (fun y9 : Nat => !(y9 == 0) && ag I (uR R 10 (u1 (R 10) (Int.toNat w) (y9 : Int))) (I 5 16) (Int.toNat (I 5 17))) (10), I, R) := by rw [k_X3_powers, (if_pos h8)]
          exact hret _ (I, R) _ _ _ _ dX3_powers_93 ⟨by rw [hk9], by rw [hk9], by rw [hk9]; exact (fun q h14 h4 => by first | rfl | exact uR_n h14 | exact uR_n h4 | exact (uR_n h14).trans (uR_n h4) | exact (uR_n h4).trans (uR_n h14))⟩ hP hS
        · skip
          refine lv_aload_n hx hb dX3_powers_37 rfl (lv_at hl 3 rfl) ?_
          refine fg_V_present C hin3 hE hP (List.mem_of_getElem? (i := 1) rfl) dX3_powers_38 ?_
          refine fg_T_strengths C hin2 hE hP (List.mem_of_getElem? (i := 2) rfl) dX3_powers_41 ?_
          refine lv_iload_n hx hb dX3_powers_44 rfl (lv_at hl 4 rfl) ?_
          refine lv_iload hx hb dX3_powers_45 (lv_at hl 0 rfl) ?_
          refine jw_S C hl.1 (jpreS hE hP) (c_X3_write (A := A) (jDC hD) w (v : Int) 10 4 (u1 (R 10) (Int.toNat w) x) (ad 10) rfl (by decide) (show 0 ≤ w ∧ w < 4 from (by omega))) (va_cwS 3 C.2.2.2.2 gX3_powers_X3_write rfl rfl rfl (by decide +kernel) ⟨Nat.le_of_ble_eq_true rfl, Nat.le_of_ble_eq_true rfl⟩) (As := [.ref (ad 10), .int (iI (w)), .int (iI ((v : Int)))]) (hn := rfl) (hst := rfl) (rest := []) (hW := Nat.le_of_ble_eq_true rfl) (hdg := dX3_powers_47) (hf := ⟨Nat.le_of_ble_eq_true rfl, Nat.le_of_ble_eq_true rfl⟩) hS (fun v9 uq47 H lc hq9 hP hS => ?_)
          subst hq9
          have hP : va_P D vwCl (wC cI cS ad I (uR (uR R 10 (u1 (R 10) (Int.toNat w) x)) 10 (u1 (u1 (R 10) (Int.toNat w) x) (Int.toNat w) (v : Int)))) H := hP
          have hP : va_P D vwCl (wC cI cS ad I (uR R 10 (u1 (R 10) (Int.toNat w) (v : Int)))) H := by rw [uR_u, u1_u] at hP; exact hP
          refine lv_aload_n hx hb dX3_powers_50 rfl (lv_at hl 3 rfl) ?_
          refine fg_V_present C hin3 hE hP (List.mem_of_getElem? (i := 1) rfl) dX3_powers_51 ?_
          refine lv_aload_n hx hb dX3_powers_54 rfl (lv_at hl 3 rfl) ?_
          refine fg_V_present C hin3 hE hP (List.mem_of_getElem? (i := 1) rfl) dX3_powers_55 ?_
          refine fg_T_setting C hin2 hE hP (v := I 5 16) (List.mem_of_getElem? (i := 3) rfl) dX3_powers_58 rfl ?_
          refine jc_V C hl.1 (jpreV hE hP 2 5 rfl rfl) (c_X2_agreesBy (I 5 16) (TI_str hT (by omega)) (show 0 ≤ (I 5 16) ∧ (I 5 16) < 256 from (by omega))) (cwV 1 C.2.2.2.2 gX3_powers_X2_agreesBy rfl rfl rfl (by decide +kernel) ⟨Nat.le_of_ble_eq_true rfl, Nat.le_of_ble_eq_true rfl⟩) (As := [.int (iI (I 5 16))]) (v := .int (iI (if ag I (uR R 10 (u1 (R 10) (Int.toNat w) (v : Int))) (I 5 16) (Int.toNat (I 5 17)) = true then 1 else 0))) (hn := rfl) (hst := rfl) (rest := []) (hW := Nat.le_of_ble_eq_true rfl) (hdg := dX3_powers_61) (hf := ⟨Nat.le_of_ble_eq_true rfl, Nat.le_of_ble_eq_true rfl⟩) ?_
          refine jz_bool_eq (tgt := 74) C dX3_powers_64 (by decide) (fun h64 => ?_) (fun h64 => ?_)
          · skip
            refine jz_iinc (k := 0) (z := (v : Int) + 1) (lv' := [(4, .int (iI ((v : Int) + 1))), (3, .int (iI (bs (fun y9 : Nat => !(y9 == 0) && ag I (uR R 10 (u1 (R 10) (Int.toNat w) (y9 : Int))) (I 5 16) (Int.toNat (I 5 17))) v))), (2, .int (iI (R 10 (Int.toNat w)))), (0, .ref (ad 0)), (1, .int (iI (w)))]) C dX3_powers_74 hl rfl rfl (by decide) rfl (fun ls hl => ?_)
            refine lv_goto (tgt := 30) hx hb dX3_powers_77 (by decide) ?_
            have hl9 : lv_has ls 5 [(4, .int (iI ((v + 1 : Int)))), (3, .int (iI (bs (fun y9 : Nat => !(y9 == 0) && ag I (uR R 10 (u1 (R 10) (Int.toNat w) (y9 : Int))) (I 5 16) (Int.toNat (I 5 17))) (v + 1)))), (2, .int (iI (R 10 (Int.toNat w)))), (0, .ref (ad 0)), (1, .int (iI (w)))] := by
              rw [show (bs (fun y9 : Nat => !(y9 == 0) && ag I (uR R 10 (u1 (R 10) (Int.toNat w) (y9 : Int))) (I 5 16) (Int.toNat (I 5 17))) (v + 1) : Int) = bs (fun y9 : Nat => !(y9 == 0) && ag I (uR R 10 (u1 (R 10) (Int.toNat w) (y9 : Int))) (I 5 16) (Int.toNat (I 5 17))) v from by first | exact bs_t (P := (fun y9 : Nat => !(y9 == 0) && ag I (uR R 10 (u1 (R 10) (Int.toNat w) (y9 : Int))) (I 5 16) (Int.toNat (I 5 17)))) (n := v) (by simp only [h64, Bool.and_true, Bool.not_eq_true', beq_eq_false_iff_ne]; omega) | exact bs_f (P := (fun y9 : Nat => !(y9 == 0) && ag I (uR R 10 (u1 (R 10) (Int.toNat w) (y9 : Int))) (I 5 16) (Int.toNat (I 5 17)))) (n := v) (by simp [h64])]
              exact lv_sub hl [0, 1, 2, 3, 4] rfl
            exact ih30 (v + 1) (v : Int) (by omega) (by omega) _ _ hP hS ls hl9
          · skip
            refine lv_iload_n hx hb dX3_powers_67 rfl (lv_at hl 1 rfl) ?_
            refine jz_const C dX3_powers_68 ?_
            refine lv_iload hx hb dX3_powers_69 (lv_at hl 0 rfl) ?_
            refine lv_ishl hx hb dX3_powers_71 ?_
            refine lv_ior hx hb dX3_powers_72 ?_
            rw [jz_or1 (by omega) bs_bd]
            refine lv_istore_n (lv' := [(3, .int (iI ((bs (fun y9 : Nat => !(y9 == 0) && ag I (uR R 10 (u1 (R 10) (Int.toNat w) (y9 : Int))) (I 5 16) (Int.toNat (I 5 17))) v) + 1 * 2 ^ v))), (4, .int (iI ((v : Int)))), (2, .int (iI (R 10 (Int.toNat w)))), (0, .ref (ad 0)), (1, .int (iI (w)))]) hx hb dX3_powers_73 rfl hl (by decide) rfl (fun ls hl => ?_)
            refine jz_iinc (k := 1) (z := (v : Int) + 1) (lv' := [(4, .int (iI ((v : Int) + 1))), (3, .int (iI ((bs (fun y9 : Nat => !(y9 == 0) && ag I (uR R 10 (u1 (R 10) (Int.toNat w) (y9 : Int))) (I 5 16) (Int.toNat (I 5 17))) v) + 1 * 2 ^ v))), (2, .int (iI (R 10 (Int.toNat w)))), (0, .ref (ad 0)), (1, .int (iI (w)))]) C dX3_powers_74 hl rfl rfl (by decide) rfl (fun ls hl => ?_)
            refine lv_goto (tgt := 30) hx hb dX3_powers_77 (by decide) ?_
            have hl9 : lv_has ls 5 [(4, .int (iI ((v + 1 : Int)))), (3, .int (iI (bs (fun y9 : Nat => !(y9 == 0) && ag I (uR R 10 (u1 (R 10) (Int.toNat w) (y9 : Int))) (I 5 16) (Int.toNat (I 5 17))) (v + 1)))), (2, .int (iI (R 10 (Int.toNat w)))), (0, .ref (ad 0)), (1, .int (iI (w)))] := by
              rw [show (bs (fun y9 : Nat => !(y9 == 0) && ag I (uR R 10 (u1 (R 10) (Int.toNat w) (y9 : Int))) (I 5 16) (Int.toNat (I 5 17))) (v + 1) : Int) = (bs (fun y9 : Nat => !(y9 == 0) && ag I (uR R 10 (u1 (R 10) (Int.toNat w) (y9 : Int))) (I 5 16) (Int.toNat (I 5 17))) v) + 1 * 2 ^ v from by first | exact bs_t (P := (fun y9 : Nat => !(y9 == 0) && ag I (uR R 10 (u1 (R 10) (Int.toNat w) (y9 : Int))) (I 5 16) (Int.toNat (I 5 17)))) (n := v) (by simp only [h64, Bool.and_true, Bool.not_eq_true', beq_eq_false_iff_ne]; omega) | exact bs_f (P := (fun y9 : Nat => !(y9 == 0) && ag I (uR R 10 (u1 (R 10) (Int.toNat w) (y9 : Int))) (I 5 16) (Int.toNat (I 5 17)))) (n := v) (by simp [h64])]
              exact lv_sub hl [0, 1, 2, 3, 4] rfl
            exact ih30 (v + 1) (v : Int) (by omega) (by omega) _ _ hP hS ls hl9
    exact key30 (Int.toNat (10 - (1 : Int)) + 1) 1 (R 10 (Int.toNat w)) (by omega) (by omega) _ _ (by rw [u1_id, uR_id]; exact hP) hS ls (lv_sub hl [0, 1, 2, 3, 4] rfl)
  · skip
    refine jz_const C dX3_powers_11 ?_
    have hk9 : k_X3_powers I R w = (-1, I, R) := by rw [k_X3_powers, (if_neg h8)]
    exact hret _ (I, R) _ _ _ _ dX3_powers_12 ⟨by rw [hk9], by rw [hk9], by rw [hk9]; exact (fun q h14 h4 => by first | rfl | exact uR_n h14 | exact uR_n h4 | exact (uR_n h14).trans (uR_n h4) | exact (uR_n h4).trans (uR_n h14))⟩ hP hS
def k_X3_odds (I R : Nat → Nat → Int) (c : Int) (v : Int) (which : Int) : Int := if 0 ≤ c ∧ c < I 5 12 then (if 0 ≤ v ∧ v ≤ 99 then (if 0 ≤ which ∧ which ≤ 1 then (if which = 0 then ((hv (cn (fun y9 : Nat => decide (v ≤ cs I R (y9 : Int) c)) (2 ^ (Int.toNat (2 * I 5 13)))) (2 ^ (Int.toNat (2 * I 5 13))) (8)).1) else ((hv (cn (fun y9 : Nat => decide (v ≤ cs I R (y9 : Int) c)) (2 ^ (Int.toNat (2 * I 5 13)))) (2 ^ (Int.toNat (2 * I 5 13))) (8)).2)) else (-9223372036854775808)) else (-9223372036854775808)) else (-9223372036854775808)
abbrev rm_X3_odds : Room := { frames := 2, cells := 0, slots := 0, locals := 50 }
set_option maxHeartbeats 4000000 in
set_option maxRecDepth 100000 in
theorem c_X3_odds {l : Launch} {D : va_G} {cI cS : ClassId} {ad : Nat → Nat} {I R : Nat → Nat → Int}  (c : Int) (v : Int) (which : Int)  (hV : VI I R) (hr_c : -2147483648 ≤ c ∧ c < 2147483648) (hr_v : -2147483648 ≤ v ∧ v < 2147483648) (hr_which : -2147483648 ≤ which ∧ which < 2147483648): JS l yX3_odds wsX3_odds rm_X3_odds (jB D cI cS (wC cI cS ad I R)) [.ref (ad 0), .int (iI (c)), .int (iI (v)), .int (iI (which))] (.long (lI (k_X3_odds I R c v which))) := by
  refine JS.mkL rfl (by decide +kernel) rfl (Nat.le_of_ble_eq_true rfl) ?_
  intro p e st mi ar bl mth cd Q ls C hB hl hret
  obtain ⟨hE, hP⟩ := hB
  have hx := C.1
  have hb := C.2.1
  have hl : lv_has ls 7 [(0, .ref (ad 0)), (1, .int (iI (c))), (2, .int (iI (v))), (3, .int (iI (which)))] := hl
  have hin3 : ∀ w ∈ wsX30, w ∈ wsX3_odds := fun _ h => List.mem_cons_of_mem _ (List.mem_append_left _ (List.mem_append_right _ h))
  have hT := hV.town
  have hW := hT.works
  have hK := hT.wards
  have hSt := hV.stands
  have hset := hT.set
  have hset2 := pow_bd hW hset
  have hcel := hT.cells
  have hlaw := hT.law
  have hrd := hT.reads
  have hP8 := pw8 hW
  refine lv_aload_n hx hb dX3_odds_0 rfl (lv_at hl 0 rfl) ?_
  refine fg_V_present C hin3 hE hP (List.mem_of_getElem? (i := 1) rfl) dX3_odds_1 ?_
  refine lv_iload_n hx hb dX3_odds_4 rfl (lv_at hl 1 rfl) ?_
  refine jc_V C hl.1 (jpreV hE hP 2 5 rfl rfl) (c_X2_hasCell c (show -2147483648 ≤ c ∧ c < 2147483648 from (by omega)) hT.cells) (cwV 1 C.2.2.2.2 gX3_odds_X2_hasCell rfl rfl rfl (by decide +kernel) ⟨Nat.le_of_ble_eq_true rfl, Nat.le_of_ble_eq_true rfl⟩) (As := [.int (iI (c))]) (v := .int (iI (if 0 ≤ c ∧ c < I 5 12 then 1 else 0))) (hn := rfl) (hst := rfl) (rest := []) (hW := Nat.le_of_ble_eq_true rfl) (hdg := dX3_odds_5) (hf := ⟨Nat.le_of_ble_eq_true rfl, Nat.le_of_ble_eq_true rfl⟩) ?_
  refine jz_bool_eq (tgt := 28) C dX3_odds_8 (by decide) (fun h8 => ?_) (fun h8 => ?_)
  · skip
    refine jz_ldc2 (z := -9223372036854775808) C (List.mem_of_getElem? (i := 2) rfl) (by decide +kernel) dX3_odds_28 ?_
    exact jz_retl (show (k_X3_odds I R c v which : Int) = -9223372036854775808 from by rw [k_X3_odds, (if_neg h8)]) (hret _ _ dX3_odds_31)
  · skip
    refine lv_iload_n hx hb dX3_odds_11 rfl (lv_at hl 2 rfl) ?_
    refine jz_bipush C dX3_odds_12 (by decide +kernel) ?_
    refine jc_S C hl.1 (jpreS hE hP) (c_X3_isUpTo v 99 (show -2147483648 ≤ v ∧ v < 2147483648 from (by omega)) (show -2147483648 ≤ 99 ∧ 99 < 2147483648 from (by omega))) (va_cwS 2 C.2.2.2.2 gX3_odds_X3_isUpTo rfl rfl rfl (by decide +kernel) ⟨Nat.le_of_ble_eq_true rfl, Nat.le_of_ble_eq_true rfl⟩) (As := [.int (iI (v)), .int (iI (99))]) (v := .int (iI (if 0 ≤ v ∧ v ≤ 99 then 1 else 0))) (hn := rfl) (hst := rfl) (rest := []) (hW := Nat.le_of_ble_eq_true rfl) (hdg := dX3_odds_14) (hf := ⟨Nat.le_of_ble_eq_true rfl, Nat.le_of_ble_eq_true rfl⟩) ?_
    refine jz_bool_eq (tgt := 28) C dX3_odds_17 (by decide) (fun h17 => ?_) (fun h17 => ?_)
    · skip
      refine jz_ldc2 (z := -9223372036854775808) C (List.mem_of_getElem? (i := 2) rfl) (by decide +kernel) dX3_odds_28 ?_
      exact jz_retl (show (k_X3_odds I R c v which : Int) = -9223372036854775808 from by rw [k_X3_odds, (if_pos h8), (if_neg h17)]) (hret _ _ dX3_odds_31)
    · skip
      refine lv_iload_n hx hb dX3_odds_20 rfl (lv_at hl 3 rfl) ?_
      refine jz_const C dX3_odds_21 ?_
      refine jc_S C hl.1 (jpreS hE hP) (c_X3_isUpTo which 1 (show -2147483648 ≤ which ∧ which < 2147483648 from (by omega)) (show -2147483648 ≤ 1 ∧ 1 < 2147483648 from (by omega))) (va_cwS 2 C.2.2.2.2 gX3_odds_X3_isUpTo rfl rfl rfl (by decide +kernel) ⟨Nat.le_of_ble_eq_true rfl, Nat.le_of_ble_eq_true rfl⟩) (As := [.int (iI (which)), .int (iI (1))]) (v := .int (iI (if 0 ≤ which ∧ which ≤ 1 then 1 else 0))) (hn := rfl) (hst := rfl) (rest := []) (hW := Nat.le_of_ble_eq_true rfl) (hdg := dX3_odds_22) (hf := ⟨Nat.le_of_ble_eq_true rfl, Nat.le_of_ble_eq_true rfl⟩) ?_
      refine jz_bool_ne (tgt := 32) C dX3_odds_25 (by decide) (fun h25 => ?_) (fun h25 => ?_)
      · skip
        refine lv_aload_n hx hb dX3_odds_32 rfl (lv_at hl 0 rfl) ?_
        refine fg_V_present C hin3 hE hP (List.mem_of_getElem? (i := 1) rfl) dX3_odds_33 ?_
        refine jc_V C hl.1 (jpreV hE hP 2 5 rfl rfl) (c_X2_settingsInAll  hT.works) (cwV 0 C.2.2.2.2 gX3_odds_X2_settingsInAll rfl rfl rfl (by decide +kernel) ⟨Nat.le_of_ble_eq_true rfl, Nat.le_of_ble_eq_true rfl⟩) (As := []) (v := .int (iI (2 ^ (Int.toNat (2 * I 5 13))))) (hn := rfl) (hst := rfl) (rest := []) (hW := Nat.le_of_ble_eq_true rfl) (hdg := dX3_odds_36) (hf := ⟨Nat.le_of_ble_eq_true rfl, Nat.le_of_ble_eq_true rfl⟩) ?_
        refine lv_istore (lv' := [(4, .int (iI (2 ^ (Int.toNat (2 * I 5 13))))), (0, .ref (ad 0)), (1, .int (iI (c))), (2, .int (iI (v))), (3, .int (iI (which)))]) hx hb dX3_odds_39 hl (by decide) rfl (fun ls hl => ?_)
        refine jz_const C dX3_odds_41 ?_
        refine lv_istore (lv' := [(5, .int (iI (0))), (4, .int (iI (2 ^ (Int.toNat (2 * I 5 13))))), (0, .ref (ad 0)), (1, .int (iI (c))), (2, .int (iI (v))), (3, .int (iI (which)))]) hx hb dX3_odds_42 hl (by decide) rfl (fun ls hl => ?_)
        refine jz_const C dX3_odds_44 ?_
        refine lv_istore (lv' := [(6, .int (iI (0))), (5, .int (iI (0))), (4, .int (iI (2 ^ (Int.toNat (2 * I 5 13))))), (0, .ref (ad 0)), (1, .int (iI (c))), (2, .int (iI (v))), (3, .int (iI (which)))]) hx hb dX3_odds_45 hl (by decide) rfl (fun ls hl => ?_)
        have key47 : ∀ (n47 : Nat) (t : Nat) (ht : (t : Int) ≤ 2 ^ (Int.toNat (2 * I 5 13))), (2 ^ (Int.toNat (2 * I 5 13)) - (t : Int) : Int) < n47 → ∀ (ls : Array Slot), lv_has ls 7 [(6, .int (iI ((t : Int)))), (5, .int (iI (cn (fun y9 : Nat => decide (v ≤ cs I R (y9 : Int) c)) t))), (4, .int (iI (2 ^ (Int.toNat (2 * I 5 13))))), (0, .ref (ad 0)), (1, .int (iI (c))), (2, .int (iI (v))), (3, .int (iI (which)))] → W p l e rm_X3_odds st mi ar bl mth cd st.heap [] 0 0 Q (F0 mi 47 ls []) := by
          intro n47
          induction n47 with
          | zero => intro t ht hn9; exfalso; omega
          | succ n47 ih47 =>
            intro t ht hn9 ls hl
            refine lv_iload hx hb dX3_odds_47 (lv_at hl 0 rfl) ?_
            refine lv_aload_n hx hb dX3_odds_49 rfl (lv_at hl 3 rfl) ?_
            refine fg_V_present C hin3 hE hP (List.mem_of_getElem? (i := 1) rfl) dX3_odds_50 ?_
            refine jc_V C hl.1 (jpreV hE hP 2 5 rfl rfl) (c_X2_settingsInAll  hT.works) (cwV 0 C.2.2.2.2 gX3_odds_X2_settingsInAll rfl rfl rfl (by decide +kernel) ⟨Nat.le_of_ble_eq_true rfl, Nat.le_of_ble_eq_true rfl⟩) (As := []) (v := .int (iI (2 ^ (Int.toNat (2 * I 5 13))))) (hn := rfl) (hst := rfl) (rest := [.int (iI ((t : Int)))]) (hW := Nat.le_of_ble_eq_true rfl) (hdg := dX3_odds_53) (hf := ⟨Nat.le_of_ble_eq_true rfl, Nat.le_of_ble_eq_true rfl⟩) ?_
            refine jz_icmp_ge (tgt := 82) C dX3_odds_56 (by decide) (by omega) (fun h56 => ?_) (fun h56 => ?_)
            · skip
              have hg9 : t = 2 ^ (Int.toNat (2 * I 5 13)) := (by have := pwN (Int.toNat (2 * I 5 13)); omega)
              subst hg9
              have hl : lv_has ls 7 [(5, .int (iI (cn (fun y9 : Nat => decide (v ≤ cs I R (y9 : Int) c)) (2 ^ (Int.toNat (2 * I 5 13)))))), (4, .int (iI (2 ^ (Int.toNat (2 * I 5 13))))), (0, .ref (ad 0)), (1, .int (iI (c))), (2, .int (iI (v))), (3, .int (iI (which)))] := lv_sub hl [1, 2, 3, 4, 5, 6] rfl
              have hcn := cn_bd (P := (fun y9 : Nat => decide (v ≤ cs I R (y9 : Int) c))) (n := (2 ^ (Int.toNat (2 * I 5 13))))
              have hpw := pwN (Int.toNat (2 * I 5 13))
              have hhv := hv_bd (u := (cn (fun y9 : Nat => decide (v ≤ cs I R (y9 : Int) c)) (2 ^ (Int.toNat (2 * I 5 13))))) (l := (2 ^ (Int.toNat (2 * I 5 13)))) ⟨⟨hcn.1, by omega⟩, by omega, by omega⟩
              refine jz_const C dX3_odds_82 ?_
              refine lv_istore (lv' := [(6, .int (iI (0))), (5, .int (iI (cn (fun y9 : Nat => decide (v ≤ cs I R (y9 : Int) c)) (2 ^ (Int.toNat (2 * I 5 13)))))), (4, .int (iI (2 ^ (Int.toNat (2 * I 5 13))))), (0, .ref (ad 0)), (1, .int (iI (c))), (2, .int (iI (v))), (3, .int (iI (which)))]) hx hb dX3_odds_83 hl (by decide) rfl (fun ls hl => ?_)
              have key85 : ∀ (n85 : Nat) (k : Nat) (hk8 : k ≤ 8), (8 - (k : Int) : Int) < n85 → ∀ (ls : Array Slot), lv_has ls 7 [(6, .int (iI ((k : Int)))), (5, .int (iI ((hv (cn (fun y9 : Nat => decide (v ≤ cs I R (y9 : Int) c)) (2 ^ (Int.toNat (2 * I 5 13)))) (2 ^ (Int.toNat (2 * I 5 13))) k).1))), (4, .int (iI ((hv (cn (fun y9 : Nat => decide (v ≤ cs I R (y9 : Int) c)) (2 ^ (Int.toNat (2 * I 5 13)))) (2 ^ (Int.toNat (2 * I 5 13))) k).2))), (0, .ref (ad 0)), (1, .int (iI (c))), (2, .int (iI (v))), (3, .int (iI (which)))] → W p l e rm_X3_odds st mi ar bl mth cd st.heap [] 0 0 Q (F0 mi 85 ls []) := by
                intro n85
                induction n85 with
                | zero => intro k hk8 hn9; exfalso; omega
                | succ n85 ih85 =>
                  intro k hk8 hn9 ls hl
                  refine lv_iload hx hb dX3_odds_85 (lv_at hl 0 rfl) ?_
                  refine jz_bipush C dX3_odds_87 (by decide +kernel) ?_
                  refine jz_icmp_ge (tgt := 123) C dX3_odds_89 (by decide) (by omega) (fun h89 => ?_) (fun h89 => ?_)
                  · skip
                    have hg9 : k = 8 := (by omega)
                    subst hg9
                    have hl : lv_has ls 7 [(5, .int (iI ((hv (cn (fun y9 : Nat => decide (v ≤ cs I R (y9 : Int) c)) (2 ^ (Int.toNat (2 * I 5 13)))) (2 ^ (Int.toNat (2 * I 5 13))) (8)).1))), (4, .int (iI ((hv (cn (fun y9 : Nat => decide (v ≤ cs I R (y9 : Int) c)) (2 ^ (Int.toNat (2 * I 5 13)))) (2 ^ (Int.toNat (2 * I 5 13))) (8)).2))), (0, .ref (ad 0)), (1, .int (iI (c))), (2, .int (iI (v))), (3, .int (iI (which)))] := lv_sub hl [1, 2, 3, 4, 5, 6] rfl
                    have hhk := hhv 8
                    refine lv_iload_n hx hb dX3_odds_123 rfl (lv_at hl 5 rfl) ?_
                    refine jz_if_ne (tgt := 133) C dX3_odds_124 (by decide) (by omega) (fun h124 => ?_) (fun h124 => ?_)
                    · skip
                      refine lv_iload hx hb dX3_odds_133 (lv_at hl 1 rfl) ?_
                      refine jz_i2l C dX3_odds_135 (by omega) ?_
                      exact jz_retl (show (k_X3_odds I R c v which : Int) = (hv (cn (fun y9 : Nat => decide (v ≤ cs I R (y9 : Int) c)) (2 ^ (Int.toNat (2 * I 5 13)))) (2 ^ (Int.toNat (2 * I 5 13))) (8)).2 from by rw [k_X3_odds, (if_pos h8), (if_pos h17), (if_pos h25), (if_neg (h124))]) (hret _ _ dX3_odds_136)
                    · skip
                      refine lv_iload hx hb dX3_odds_127 (lv_at hl 0 rfl) ?_
                      refine jz_i2l C dX3_odds_129 (by omega) ?_
                      refine lv_goto (tgt := 136) hx hb dX3_odds_130 (by decide) ?_
                      exact jz_retl (show (k_X3_odds I R c v which : Int) = (hv (cn (fun y9 : Nat => decide (v ≤ cs I R (y9 : Int) c)) (2 ^ (Int.toNat (2 * I 5 13)))) (2 ^ (Int.toNat (2 * I 5 13))) (8)).1 from by rw [k_X3_odds, (if_pos h8), (if_pos h17), (if_pos h25), (if_pos h124)]) (hret _ _ dX3_odds_136)
                  · skip
                    have hhk := hhv k
                    refine lv_iload hx hb dX3_odds_92 (lv_at hl 2 rfl) ?_
                    refine jz_const C dX3_odds_94 ?_
                    refine jz_icmp_le (tgt := 117) C dX3_odds_95 (by decide) (by omega) (fun h95 => ?_) (fun h95 => ?_)
                    · skip
                      refine jz_iinc (k := 0) (z := (k : Int) + 1) (lv' := [(6, .int (iI ((k : Int) + 1))), (5, .int (iI ((hv (cn (fun y9 : Nat => decide (v ≤ cs I R (y9 : Int) c)) (2 ^ (Int.toNat (2 * I 5 13)))) (2 ^ (Int.toNat (2 * I 5 13))) k).1))), (4, .int (iI ((hv (cn (fun y9 : Nat => decide (v ≤ cs I R (y9 : Int) c)) (2 ^ (Int.toNat (2 * I 5 13)))) (2 ^ (Int.toNat (2 * I 5 13))) k).2))), (0, .ref (ad 0)), (1, .int (iI (c))), (2, .int (iI (v))), (3, .int (iI (which)))]) C dX3_odds_117 hl rfl rfl (by decide) rfl (fun ls hl => ?_)
                      refine lv_goto (tgt := 85) hx hb dX3_odds_120 (by decide) ?_
                      have hl9 : lv_has ls 7 [(6, .int (iI ((k + 1 : Int)))), (5, .int (iI ((hv (cn (fun y9 : Nat => decide (v ≤ cs I R (y9 : Int) c)) (2 ^ (Int.toNat (2 * I 5 13)))) (2 ^ (Int.toNat (2 * I 5 13))) (k + 1)).1))), (4, .int (iI ((hv (cn (fun y9 : Nat => decide (v ≤ cs I R (y9 : Int) c)) (2 ^ (Int.toNat (2 * I 5 13)))) (2 ^ (Int.toNat (2 * I 5 13))) (k + 1)).2))), (0, .ref (ad 0)), (1, .int (iI (c))), (2, .int (iI (v))), (3, .int (iI (which)))] := by
                        rw [show ((hv (cn (fun y9 : Nat => decide (v ≤ cs I R (y9 : Int) c)) (2 ^ (Int.toNat (2 * I 5 13)))) (2 ^ (Int.toNat (2 * I 5 13))) (k + 1)).1 : Int) = (hv (cn (fun y9 : Nat => decide (v ≤ cs I R (y9 : Int) c)) (2 ^ (Int.toNat (2 * I 5 13)))) (2 ^ (Int.toNat (2 * I 5 13))) k).1 from by first | rw [hv_t h95 h102] | rw [hv_f1 h95] | rw [hv_f2 h102]]
                        rw [show ((hv (cn (fun y9 : Nat => decide (v ≤ cs I R (y9 : Int) c)) (2 ^ (Int.toNat (2 * I 5 13)))) (2 ^ (Int.toNat (2 * I 5 13))) (k + 1)).2 : Int) = (hv (cn (fun y9 : Nat => decide (v ≤ cs I R (y9 : Int) c)) (2 ^ (Int.toNat (2 * I 5 13)))) (2 ^ (Int.toNat (2 * I 5 13))) k).2 from by first | rw [hv_t h95 h102] | rw [hv_f1 h95] | rw [hv_f2 h102]]
                        exact lv_sub hl [0, 1, 2, 3, 4, 5, 6] rfl
                      exact ih85 (k + 1) (by omega) (by omega) ls hl9
                    · skip
                      refine lv_iload hx hb dX3_odds_98 (lv_at hl 1 rfl) ?_
                      refine jz_const C dX3_odds_100 ?_
                      refine jz_iand (k := 1) C dX3_odds_101 (by decide +kernel) (by omega) ?_
                      refine jz_if_ne (tgt := 117) C dX3_odds_102 (by decide) (by omega) (fun h102 => ?_) (fun h102 => ?_)
                      · skip
                        refine jz_iinc (k := 0) (z := (k : Int) + 1) (lv' := [(6, .int (iI ((k : Int) + 1))), (5, .int (iI ((hv (cn (fun y9 : Nat => decide (v ≤ cs I R (y9 : Int) c)) (2 ^ (Int.toNat (2 * I 5 13)))) (2 ^ (Int.toNat (2 * I 5 13))) k).1))), (4, .int (iI ((hv (cn (fun y9 : Nat => decide (v ≤ cs I R (y9 : Int) c)) (2 ^ (Int.toNat (2 * I 5 13)))) (2 ^ (Int.toNat (2 * I 5 13))) k).2))), (0, .ref (ad 0)), (1, .int (iI (c))), (2, .int (iI (v))), (3, .int (iI (which)))]) C dX3_odds_117 hl rfl rfl (by decide) rfl (fun ls hl => ?_)
                        refine lv_goto (tgt := 85) hx hb dX3_odds_120 (by decide) ?_
                        have hl9 : lv_has ls 7 [(6, .int (iI ((k + 1 : Int)))), (5, .int (iI ((hv (cn (fun y9 : Nat => decide (v ≤ cs I R (y9 : Int) c)) (2 ^ (Int.toNat (2 * I 5 13)))) (2 ^ (Int.toNat (2 * I 5 13))) (k + 1)).1))), (4, .int (iI ((hv (cn (fun y9 : Nat => decide (v ≤ cs I R (y9 : Int) c)) (2 ^ (Int.toNat (2 * I 5 13)))) (2 ^ (Int.toNat (2 * I 5 13))) (k + 1)).2))), (0, .ref (ad 0)), (1, .int (iI (c))), (2, .int (iI (v))), (3, .int (iI (which)))] := by
                          rw [show ((hv (cn (fun y9 : Nat => decide (v ≤ cs I R (y9 : Int) c)) (2 ^ (Int.toNat (2 * I 5 13)))) (2 ^ (Int.toNat (2 * I 5 13))) (k + 1)).1 : Int) = (hv (cn (fun y9 : Nat => decide (v ≤ cs I R (y9 : Int) c)) (2 ^ (Int.toNat (2 * I 5 13)))) (2 ^ (Int.toNat (2 * I 5 13))) k).1 from by first | rw [hv_t h95 h102] | rw [hv_f1 h95] | rw [hv_f2 h102]]
                          rw [show ((hv (cn (fun y9 : Nat => decide (v ≤ cs I R (y9 : Int) c)) (2 ^ (Int.toNat (2 * I 5 13)))) (2 ^ (Int.toNat (2 * I 5 13))) (k + 1)).2 : Int) = (hv (cn (fun y9 : Nat => decide (v ≤ cs I R (y9 : Int) c)) (2 ^ (Int.toNat (2 * I 5 13)))) (2 ^ (Int.toNat (2 * I 5 13))) k).2 from by first | rw [hv_t h95 h102] | rw [hv_f1 h95] | rw [hv_f2 h102]]
                          exact lv_sub hl [0, 1, 2, 3, 4, 5, 6] rfl
                        exact ih85 (k + 1) (by omega) (by omega) ls hl9
                      · skip
                        refine lv_iload hx hb dX3_odds_105 (lv_at hl 1 rfl) ?_
                        refine jz_const C dX3_odds_107 ?_
                        refine jz_ishr (k := 1) C dX3_odds_108 (by omega) ?_
                        refine lv_istore (lv' := [(5, .int (iI (((hv (cn (fun y9 : Nat => decide (v ≤ cs I R (y9 : Int) c)) (2 ^ (Int.toNat (2 * I 5 13)))) (2 ^ (Int.toNat (2 * I 5 13))) k).1) / 2 ^ 1))), (6, .int (iI ((k : Int)))), (4, .int (iI ((hv (cn (fun y9 : Nat => decide (v ≤ cs I R (y9 : Int) c)) (2 ^ (Int.toNat (2 * I 5 13)))) (2 ^ (Int.toNat (2 * I 5 13))) k).2))), (0, .ref (ad 0)), (1, .int (iI (c))), (2, .int (iI (v))), (3, .int (iI (which)))]) hx hb dX3_odds_109 hl (by decide) rfl (fun ls hl => ?_)
                        refine lv_iload hx hb dX3_odds_111 (lv_at hl 2 rfl) ?_
                        refine jz_const C dX3_odds_113 ?_
                        refine jz_ishr (k := 1) C dX3_odds_114 (by omega) ?_
                        refine lv_istore (lv' := [(4, .int (iI (((hv (cn (fun y9 : Nat => decide (v ≤ cs I R (y9 : Int) c)) (2 ^ (Int.toNat (2 * I 5 13)))) (2 ^ (Int.toNat (2 * I 5 13))) k).2) / 2 ^ 1))), (5, .int (iI (((hv (cn (fun y9 : Nat => decide (v ≤ cs I R (y9 : Int) c)) (2 ^ (Int.toNat (2 * I 5 13)))) (2 ^ (Int.toNat (2 * I 5 13))) k).1) / 2 ^ 1))), (6, .int (iI ((k : Int)))), (0, .ref (ad 0)), (1, .int (iI (c))), (2, .int (iI (v))), (3, .int (iI (which)))]) hx hb dX3_odds_115 hl (by decide) rfl (fun ls hl => ?_)
                        refine jz_iinc (k := 2) (z := (k : Int) + 1) (lv' := [(6, .int (iI ((k : Int) + 1))), (4, .int (iI (((hv (cn (fun y9 : Nat => decide (v ≤ cs I R (y9 : Int) c)) (2 ^ (Int.toNat (2 * I 5 13)))) (2 ^ (Int.toNat (2 * I 5 13))) k).2) / 2 ^ 1))), (5, .int (iI (((hv (cn (fun y9 : Nat => decide (v ≤ cs I R (y9 : Int) c)) (2 ^ (Int.toNat (2 * I 5 13)))) (2 ^ (Int.toNat (2 * I 5 13))) k).1) / 2 ^ 1))), (0, .ref (ad 0)), (1, .int (iI (c))), (2, .int (iI (v))), (3, .int (iI (which)))]) C dX3_odds_117 hl rfl rfl (by decide) rfl (fun ls hl => ?_)
                        refine lv_goto (tgt := 85) hx hb dX3_odds_120 (by decide) ?_
                        have hl9 : lv_has ls 7 [(6, .int (iI ((k + 1 : Int)))), (5, .int (iI ((hv (cn (fun y9 : Nat => decide (v ≤ cs I R (y9 : Int) c)) (2 ^ (Int.toNat (2 * I 5 13)))) (2 ^ (Int.toNat (2 * I 5 13))) (k + 1)).1))), (4, .int (iI ((hv (cn (fun y9 : Nat => decide (v ≤ cs I R (y9 : Int) c)) (2 ^ (Int.toNat (2 * I 5 13)))) (2 ^ (Int.toNat (2 * I 5 13))) (k + 1)).2))), (0, .ref (ad 0)), (1, .int (iI (c))), (2, .int (iI (v))), (3, .int (iI (which)))] := by
                          rw [show ((hv (cn (fun y9 : Nat => decide (v ≤ cs I R (y9 : Int) c)) (2 ^ (Int.toNat (2 * I 5 13)))) (2 ^ (Int.toNat (2 * I 5 13))) (k + 1)).1 : Int) = ((hv (cn (fun y9 : Nat => decide (v ≤ cs I R (y9 : Int) c)) (2 ^ (Int.toNat (2 * I 5 13)))) (2 ^ (Int.toNat (2 * I 5 13))) k).1) / 2 ^ 1 from by first | rw [hv_t h95 h102] | rw [hv_f1 h95] | rw [hv_f2 h102]]
                          rw [show ((hv (cn (fun y9 : Nat => decide (v ≤ cs I R (y9 : Int) c)) (2 ^ (Int.toNat (2 * I 5 13)))) (2 ^ (Int.toNat (2 * I 5 13))) (k + 1)).2 : Int) = ((hv (cn (fun y9 : Nat => decide (v ≤ cs I R (y9 : Int) c)) (2 ^ (Int.toNat (2 * I 5 13)))) (2 ^ (Int.toNat (2 * I 5 13))) k).2) / 2 ^ 1 from by first | rw [hv_t h95 h102] | rw [hv_f1 h95] | rw [hv_f2 h102]]
                          exact lv_sub hl [0, 2, 1, 3, 4, 5, 6] rfl
                        exact ih85 (k + 1) (by omega) (by omega) ls hl9
              exact key85 (Int.toNat (8 - (0 : Int)) + 1) 0 (by omega) (by omega) ls (lv_sub hl [0, 1, 2, 3, 4, 5, 6] rfl)
            · skip
              have hcn := cn_bd (P := (fun y9 : Nat => decide (v ≤ cs I R (y9 : Int) c))) (n := t)
              have hcs := cs_bd hT (s := (t : Int)) (c := c) (by omega)
              refine lv_aload_n hx hb dX3_odds_59 rfl (lv_at hl 3 rfl) ?_
              refine fg_V_present C hin3 hE hP (List.mem_of_getElem? (i := 1) rfl) dX3_odds_60 ?_
              refine lv_iload hx hb dX3_odds_63 (lv_at hl 0 rfl) ?_
              refine lv_iload_n hx hb dX3_odds_65 rfl (lv_at hl 4 rfl) ?_
              refine jc_V C hl.1 (jpreV hE hP 2 5 rfl rfl) (c_X2_smellBy (t : Int) c hT (show 0 ≤ (t : Int) ∧ (t : Int) < 256 from (by omega)) (show 0 ≤ c ∧ c < 24 from (by omega))) (cwV 2 C.2.2.2.2 gX3_odds_X2_smellBy rfl rfl rfl (by decide +kernel) ⟨Nat.le_of_ble_eq_true rfl, Nat.le_of_ble_eq_true rfl⟩) (As := [.int (iI ((t : Int))), .int (iI (c))]) (v := .int (iI (cs I R (t : Int) c))) (hn := rfl) (hst := rfl) (rest := []) (hW := Nat.le_of_ble_eq_true rfl) (hdg := dX3_odds_66) (hf := ⟨Nat.le_of_ble_eq_true rfl, Nat.le_of_ble_eq_true rfl⟩) ?_
              refine lv_iload_n hx hb dX3_odds_69 rfl (lv_at hl 5 rfl) ?_
              refine jz_icmp_lt (tgt := 76) C dX3_odds_70 (by decide) (by omega) (fun h70 => ?_) (fun h70 => ?_)
              · skip
                refine jz_iinc (k := 0) (z := (t : Int) + 1) (lv' := [(6, .int (iI ((t : Int) + 1))), (5, .int (iI (cn (fun y9 : Nat => decide (v ≤ cs I R (y9 : Int) c)) t))), (4, .int (iI (2 ^ (Int.toNat (2 * I 5 13))))), (0, .ref (ad 0)), (1, .int (iI (c))), (2, .int (iI (v))), (3, .int (iI (which)))]) C dX3_odds_76 hl rfl rfl (by decide) rfl (fun ls hl => ?_)
                refine lv_goto (tgt := 47) hx hb dX3_odds_79 (by decide) ?_
                have hl9 : lv_has ls 7 [(6, .int (iI ((t + 1 : Int)))), (5, .int (iI (cn (fun y9 : Nat => decide (v ≤ cs I R (y9 : Int) c)) (t + 1)))), (4, .int (iI (2 ^ (Int.toNat (2 * I 5 13))))), (0, .ref (ad 0)), (1, .int (iI (c))), (2, .int (iI (v))), (3, .int (iI (which)))] := by
                  rw [show (cn (fun y9 : Nat => decide (v ≤ cs I R (y9 : Int) c)) (t + 1) : Int) = cn (fun y9 : Nat => decide (v ≤ cs I R (y9 : Int) c)) t from by first | exact cn_t (P := (fun y9 : Nat => decide (v ≤ cs I R (y9 : Int) c))) (n := t) (decide_eq_true h70) | exact cn_f (P := (fun y9 : Nat => decide (v ≤ cs I R (y9 : Int) c))) (n := t) (fun q => absurd (of_decide_eq_true q) (Int.not_le.mpr h70))]
                  exact lv_sub hl [0, 1, 2, 3, 4, 5, 6] rfl
                exact ih47 (t + 1) (by omega) (by omega) ls hl9
              · skip
                refine jz_iinc (k := 1) (z := cn (fun y9 : Nat => decide (v ≤ cs I R (y9 : Int) c)) t + 1) (lv' := [(5, .int (iI (cn (fun y9 : Nat => decide (v ≤ cs I R (y9 : Int) c)) t + 1))), (6, .int (iI ((t : Int)))), (4, .int (iI (2 ^ (Int.toNat (2 * I 5 13))))), (0, .ref (ad 0)), (1, .int (iI (c))), (2, .int (iI (v))), (3, .int (iI (which)))]) C dX3_odds_73 hl rfl rfl (by decide) rfl (fun ls hl => ?_)
                refine jz_iinc (k := 1) (z := (t : Int) + 1) (lv' := [(6, .int (iI ((t : Int) + 1))), (5, .int (iI (cn (fun y9 : Nat => decide (v ≤ cs I R (y9 : Int) c)) t + 1))), (4, .int (iI (2 ^ (Int.toNat (2 * I 5 13))))), (0, .ref (ad 0)), (1, .int (iI (c))), (2, .int (iI (v))), (3, .int (iI (which)))]) C dX3_odds_76 hl rfl rfl (by decide) rfl (fun ls hl => ?_)
                refine lv_goto (tgt := 47) hx hb dX3_odds_79 (by decide) ?_
                have hl9 : lv_has ls 7 [(6, .int (iI ((t + 1 : Int)))), (5, .int (iI (cn (fun y9 : Nat => decide (v ≤ cs I R (y9 : Int) c)) (t + 1)))), (4, .int (iI (2 ^ (Int.toNat (2 * I 5 13))))), (0, .ref (ad 0)), (1, .int (iI (c))), (2, .int (iI (v))), (3, .int (iI (which)))] := by
                  rw [show (cn (fun y9 : Nat => decide (v ≤ cs I R (y9 : Int) c)) (t + 1) : Int) = cn (fun y9 : Nat => decide (v ≤ cs I R (y9 : Int) c)) t + 1 from by first | exact cn_t (P := (fun y9 : Nat => decide (v ≤ cs I R (y9 : Int) c))) (n := t) (decide_eq_true h70) | exact cn_f (P := (fun y9 : Nat => decide (v ≤ cs I R (y9 : Int) c))) (n := t) (fun q => absurd (of_decide_eq_true q) (Int.not_le.mpr h70))]
                  exact lv_sub hl [0, 1, 2, 3, 4, 5, 6] rfl
                exact ih47 (t + 1) (by omega) (by omega) ls hl9
        exact key47 (Int.toNat (2 ^ (Int.toNat (2 * I 5 13)) - (0 : Int)) + 1) 0 (by omega) (by omega) ls (lv_sub hl [0, 1, 2, 3, 4, 5, 6] rfl)
      · skip
        refine jz_ldc2 (z := -9223372036854775808) C (List.mem_of_getElem? (i := 2) rfl) (by decide +kernel) dX3_odds_28 ?_
        exact jz_retl (show (k_X3_odds I R c v which : Int) = -9223372036854775808 from by rw [k_X3_odds, (if_pos h8), (if_pos h17), (if_neg h25)]) (hret _ _ dX3_odds_31)
def k_X3_sheet (I R : Nat → Nat → Int) (k : Int) (lane : Int) (n : Int) : Int × (Nat → Nat → Int) × (Nat → Nat → Int) := if 0 ≤ k ∧ k < 4 then (if 0 ≤ lane ∧ lane ≤ 2 then (if 60 < n then ((-2, (u2 I 0 6 0), R)) else (if n < 0 then ((-10 - 4, (u2 (u2 I 0 6 0) 0 6 4), R)) else ((1, (u2 (u2 (u2 I 0 6 0) 25 (Int.toNat k) lane) 26 (Int.toNat k) n), (uR R (26 + 2 * (Int.toNat k)) (fl (R (26 + 2 * (Int.toNat k))) 0 60)))))) else ((-2, (u2 I 0 6 0), R))) else ((-1, (u2 I 0 6 0), R))
abbrev rm_X3_sheet : Room := { frames := 2, cells := 0, slots := 0, locals := 45 }
set_option maxHeartbeats 4000000 in
set_option maxRecDepth 100000 in
theorem c_X3_sheet {l : Launch} {D : va_G} {cI cS : ClassId} {ad : Nat → Nat} {I R : Nat → Nat → Int} {A : Nat → Prop} (hD : va_D A (wC cI cS ad I R))  (k : Int) (lane : Int) (n : Int)  (hV : VI I R) (hr_k : -2147483648 ≤ k ∧ k < 2147483648) (hr_lane : -2147483648 ≤ lane ∧ lane < 2147483648) (hr_n : -2147483648 ≤ n ∧ n < 2147483648): JV l yX3_sheet wsX3_sheet rm_X3_sheet (jB D cI cS (wC cI cS ad I R)) A [.ref (ad 0), .int (iI (k)), .int (iI (lane)), .int (iI (n))] (fun v9 (u9 : (Nat → Nat → Int) × (Nat → Nat → Int)) => v9 = some (.int (iI (k_X3_sheet I R k lane n).1)) ∧ u9.1 = (k_X3_sheet I R k lane n).2.1 ∧ jq u9.2 (k_X3_sheet I R k lane n).2.2) (fun u9 H => va_P D vwCl (wC cI cS ad u9.1 u9.2) H) := by
  refine JV.mkI rfl (by decide +kernel) rfl (Nat.le_of_ble_eq_true rfl) ?_
  intro p e st mi ar bl mth cd Q ls C hB hl hret
  obtain ⟨hE, hP⟩ := hB
  have hx := C.1
  have hb := C.2.1
  have hl : lv_has ls 5 [(0, .ref (ad 0)), (1, .int (iI (k))), (2, .int (iI (lane))), (3, .int (iI (n)))] := hl
  have hin3 : ∀ w ∈ wsX30, w ∈ wsX3_sheet := fun _ h => List.mem_cons_of_mem _ (List.mem_append_left _ (List.mem_append_right _ h))
  suffices hgo : ∀ (H : Heap) (lc : List Loc), va_P D vwCl (wC cI cS ad I R) H → va_S A st.heap H lc → W p l e rm_X3_sheet st mi ar bl mth cd H lc 0 0 Q (F0 mi 0 ls []) from hgo _ _ hP va_S.rf
  clear hP
  intro H lc hP hS
  have hT := hV.town
  have hW := hT.works
  have hK := hT.wards
  have hSt := hV.stands
  have hset := hT.set
  have hset2 := pow_bd hW hset
  have hcel := hT.cells
  have hlaw := hT.law
  have hrd := hT.reads
  have hP8 := pw8 hW
  refine lv_aload_n hx hb dX3_sheet_0 rfl (lv_at hl 0 rfl) ?_
  refine jz_const C dX3_sheet_1 ?_
  refine fp_V_lastFault C hin3 hE hP (jDC hD) hS (List.mem_of_getElem? (i := 1) rfl) dX3_sheet_2 (fun H lc hP hS => ?_)
  refine jz_sub (P := 0 ≤ k ∧ k < 4) (fun hin => ?_) (fun hin => ?_)
  · skip
    refine lv_aload_n hx hb dX3_sheet_5 rfl (lv_at hl 0 rfl) ?_
    refine lv_iload_n hx hb dX3_sheet_6 rfl (lv_at hl 1 rfl) ?_
    refine jc_V C hl.1 (jpreV hE hP 3 0 rfl rfl) (c_X3_sheetAtI k (show 0 ≤ k ∧ k < 4 from (by omega))) (cwV 1 C.2.2.2.2 gX3_sheet_X3_sheetAt rfl rfl rfl (by decide +kernel) ⟨Nat.le_of_ble_eq_true rfl, Nat.le_of_ble_eq_true rfl⟩) (As := [.int (iI (k))]) (v := .ref (ad (25 + 2 * (Int.toNat k)))) (hn := rfl) (hst := rfl) (rest := []) (hW := Nat.le_of_ble_eq_true rfl) (hdg := dX3_sheet_7) (hf := ⟨Nat.le_of_ble_eq_true rfl, Nat.le_of_ble_eq_true rfl⟩) ?_
    refine lv_astore (lv' := [(4, .ref (ad (25 + 2 * (Int.toNat k)))), (0, .ref (ad 0)), (1, .int (iI (k))), (2, .int (iI (lane))), (3, .int (iI (n)))]) hx hb dX3_sheet_10 hl (by decide) rfl (fun ls hl => ?_)
    refine lv_aload hx hb dX3_sheet_12 (lv_at hl 0 rfl) ?_
    refine lv_ifnonnull (tgt := 19) hx hb dX3_sheet_14 (by decide) ?_
    refine lv_iload_n hx hb dX3_sheet_19 rfl (lv_at hl 3 rfl) ?_
    refine jz_const C dX3_sheet_20 ?_
    refine jc_S C hl.1 (jpreS hE hP) (c_X3_isUpTo lane 2 (show -2147483648 ≤ lane ∧ lane < 2147483648 from (by omega)) (show -2147483648 ≤ 2 ∧ 2 < 2147483648 from (by omega))) (va_cwS 2 C.2.2.2.2 gX3_sheet_X3_isUpTo rfl rfl rfl (by decide +kernel) ⟨Nat.le_of_ble_eq_true rfl, Nat.le_of_ble_eq_true rfl⟩) (As := [.int (iI (lane)), .int (iI (2))]) (v := .int (iI (if 0 ≤ lane ∧ lane ≤ 2 then 1 else 0))) (hn := rfl) (hst := rfl) (rest := []) (hW := Nat.le_of_ble_eq_true rfl) (hdg := dX3_sheet_21) (hf := ⟨Nat.le_of_ble_eq_true rfl, Nat.le_of_ble_eq_true rfl⟩) ?_
    refine jz_bool_eq (tgt := 33) C dX3_sheet_24 (by decide) (fun h24 => ?_) (fun h24 => ?_)
    · skip
      refine jz_bipush C dX3_sheet_33 (by decide +kernel) ?_
      have hk9 : k_X3_sheet I R k lane n = (-2, (u2 I 0 6 0), R) := by rw [k_X3_sheet, (if_pos hin), (if_neg h24)]
      exact hret _ ((u2 I 0 6 0), R) _ _ _ _ dX3_sheet_35 ⟨by rw [hk9], by rw [hk9], by rw [hk9]; exact (fun q h14 h4 => by first | rfl | exact uR_n h14 | exact uR_n h4 | exact (uR_n h14).trans (uR_n h4) | exact (uR_n h4).trans (uR_n h14))⟩ hP hS
    · skip
      refine lv_iload_n hx hb dX3_sheet_27 rfl (lv_at hl 4 rfl) ?_
      refine jz_bipush C dX3_sheet_28 (by decide +kernel) ?_
      refine jz_icmp_le (tgt := 36) C dX3_sheet_30 (by decide) (by omega) (fun h30 => ?_) (fun h30 => ?_)
      · skip
        refine lv_iload_n hx hb dX3_sheet_36 rfl (lv_at hl 4 rfl) ?_
        refine jz_if_ge (tgt := 46) C dX3_sheet_37 (by decide) (by omega) (fun h37 => ?_) (fun h37 => ?_)
        · skip
          refine lv_aload hx hb dX3_sheet_46 (lv_at hl 0 rfl) ?_
          refine lv_iload_n hx hb dX3_sheet_48 rfl (lv_at hl 3 rfl) ?_
          refine lv_iload_n hx hb dX3_sheet_49 rfl (lv_at hl 4 rfl) ?_
          refine jw_V C hl.1 (jpreH hE hP (by omega)) (c_X0_renew (A := A) (jDC hD) lane n (Int.toNat k) (show (Int.toNat k) < 4 from (by omega))) (cwV 2 C.2.2.2.2 gX3_sheet_X0_renew rfl rfl rfl (by decide +kernel) ⟨Nat.le_of_ble_eq_true rfl, Nat.le_of_ble_eq_true rfl⟩) (As := [.int (iI (lane)), .int (iI (n))]) (hn := rfl) (hst := rfl) (rest := []) (hW := Nat.le_of_ble_eq_true rfl) (hdg := dX3_sheet_50) (hf := ⟨Nat.le_of_ble_eq_true rfl, Nat.le_of_ble_eq_true rfl⟩) hS (fun v9 uq50 H lc hq9 hP hS => ?_)
          subst hq9
          have hP : va_P D vwCl (wC cI cS ad (u2 (u2 (u2 I 0 6 0) 25 (Int.toNat k) lane) 26 (Int.toNat k) n) (uR R (26 + 2 * (Int.toNat k)) (fl (R (26 + 2 * (Int.toNat k))) 0 60))) H := hP
          refine jz_const C dX3_sheet_53 ?_
          have hk9 : k_X3_sheet I R k lane n = (1, (u2 (u2 (u2 I 0 6 0) 25 (Int.toNat k) lane) 26 (Int.toNat k) n), (uR R (26 + 2 * (Int.toNat k)) (fl (R (26 + 2 * (Int.toNat k))) 0 60))) := by rw [k_X3_sheet, (if_pos hin), (if_pos h24), (if_neg (Int.not_lt.mpr h30)), (if_neg (Int.not_lt.mpr h37))]
          exact hret _ ((u2 (u2 (u2 I 0 6 0) 25 (Int.toNat k) lane) 26 (Int.toNat k) n), (uR R (26 + 2 * (Int.toNat k)) (fl (R (26 + 2 * (Int.toNat k))) 0 60))) _ _ _ _ dX3_sheet_54 ⟨by rw [hk9], by rw [hk9], by rw [hk9]; exact (fun q h14 h4 => by first | rfl | exact uR_n h14 | exact uR_n h4 | exact (uR_n h14).trans (uR_n h4) | exact (uR_n h4).trans (uR_n h14))⟩ hP hS
        · skip
          refine lv_aload_n hx hb dX3_sheet_40 rfl (lv_at hl 1 rfl) ?_
          refine jz_const C dX3_sheet_41 ?_
          refine jw_V C hl.1 (jpreV hE hP 3 0 rfl rfl) (c_X3_fail (A := A) (jDC hD) 4 ) (cwV 1 C.2.2.2.2 gX3_sheet_X3_fail rfl rfl rfl (by decide +kernel) ⟨Nat.le_of_ble_eq_true rfl, Nat.le_of_ble_eq_true rfl⟩) (As := [.int (iI (4))]) (hn := rfl) (hst := rfl) (rest := []) (hW := Nat.le_of_ble_eq_true rfl) (hdg := dX3_sheet_42) (hf := ⟨Nat.le_of_ble_eq_true rfl, Nat.le_of_ble_eq_true rfl⟩) hS (fun v9 uq42 H lc hq9 hP hS => ?_)
          subst hq9
          have hP : va_P D vwCl (wC cI cS ad (u2 (u2 I 0 6 0) 0 6 4) R) H := hP
          have hk9 : k_X3_sheet I R k lane n = (-10 - 4, (u2 (u2 I 0 6 0) 0 6 4), R) := by rw [k_X3_sheet, (if_pos hin), (if_pos h24), (if_neg (Int.not_lt.mpr h30)), (if_pos h37)]
          exact hret _ ((u2 (u2 I 0 6 0) 0 6 4), R) _ _ _ _ dX3_sheet_45 ⟨by rw [hk9], by rw [hk9], by rw [hk9]; exact (fun q h14 h4 => by first | rfl | exact uR_n h14 | exact uR_n h4 | exact (uR_n h14).trans (uR_n h4) | exact (uR_n h4).trans (uR_n h14))⟩ hP hS
      · skip
        refine jz_bipush C dX3_sheet_33 (by decide +kernel) ?_
        have hk9 : k_X3_sheet I R k lane n = (-2, (u2 I 0 6 0), R) := by rw [k_X3_sheet, (if_pos hin), (if_pos h24), (if_pos h30)]
        exact hret _ ((u2 I 0 6 0), R) _ _ _ _ dX3_sheet_35 ⟨by rw [hk9], by rw [hk9], by rw [hk9]; exact (fun q h14 h4 => by first | rfl | exact uR_n h14 | exact uR_n h4 | exact (uR_n h14).trans (uR_n h4) | exact (uR_n h4).trans (uR_n h14))⟩ hP hS
  · skip
    refine lv_aload_n hx hb dX3_sheet_5 rfl (lv_at hl 0 rfl) ?_
    refine lv_iload_n hx hb dX3_sheet_6 rfl (lv_at hl 1 rfl) ?_
    refine jc_V C hl.1 (jpreV hE hP 3 0 rfl rfl) (c_X3_sheetAtO k (show ¬ (0 ≤ k ∧ k < 4) from (by omega)) (show -2147483648 ≤ k ∧ k < 2147483648 from (by omega))) (cwV 1 C.2.2.2.2 gX3_sheet_X3_sheetAt rfl rfl rfl (by decide +kernel) ⟨Nat.le_of_ble_eq_true rfl, Nat.le_of_ble_eq_true rfl⟩) (As := [.int (iI (k))]) (v := .null) (hn := rfl) (hst := rfl) (rest := []) (hW := Nat.le_of_ble_eq_true rfl) (hdg := dX3_sheet_7) (hf := ⟨Nat.le_of_ble_eq_true rfl, Nat.le_of_ble_eq_true rfl⟩) ?_
    refine lv_astoreN (lv' := [(4, .null), (0, .ref (ad 0)), (1, .int (iI (k))), (2, .int (iI (lane))), (3, .int (iI (n)))]) hx hb dX3_sheet_10 hl (by decide) rfl (fun ls hl => ?_)
    refine lv_aloadN hx hb dX3_sheet_12 (lv_at hl 0 rfl) ?_
    refine lv_ifnonnullN hx hb dX3_sheet_14 ?_
    refine jz_const C dX3_sheet_17 ?_
    have hk9 : k_X3_sheet I R k lane n = (-1, (u2 I 0 6 0), R) := by rw [k_X3_sheet, (if_neg hin)]
    exact hret _ ((u2 I 0 6 0), R) _ _ _ _ dX3_sheet_18 ⟨by rw [hk9], by rw [hk9], by rw [hk9]; exact (fun q h14 h4 => by first | rfl | exact uR_n h14 | exact uR_n h4 | exact (uR_n h14).trans (uR_n h4) | exact (uR_n h4).trans (uR_n h14))⟩ hP hS
def k_X3_lose (I R : Nat → Nat → Int) (k : Int) : Int × (Nat → Nat → Int) × (Nat → Nat → Int) := if 0 ≤ k ∧ k < 4 then (if ¬ I 25 (Int.toNat k) = -1 then ((1, (u2 (u2 I 25 (Int.toNat k) (-1)) 26 (Int.toNat k) 0), (uR R (26 + 2 * (Int.toNat k)) (fl (R (26 + 2 * (Int.toNat k))) 0 60)))) else ((0, I, R))) else ((-1, I, R))
abbrev rm_X3_lose : Room := { frames := 2, cells := 0, slots := 0, locals := 45 }
set_option maxHeartbeats 4000000 in
set_option maxRecDepth 100000 in
theorem c_X3_lose {l : Launch} {D : va_G} {cI cS : ClassId} {ad : Nat → Nat} {I R : Nat → Nat → Int} {A : Nat → Prop} (hD : va_D A (wC cI cS ad I R))  (k : Int)  (hV : VI I R) (hr_k : -2147483648 ≤ k ∧ k < 2147483648): JV l yX3_lose wsX3_lose rm_X3_lose (jB D cI cS (wC cI cS ad I R)) A [.ref (ad 0), .int (iI (k))] (fun v9 (u9 : (Nat → Nat → Int) × (Nat → Nat → Int)) => v9 = some (.int (iI (k_X3_lose I R k).1)) ∧ u9.1 = (k_X3_lose I R k).2.1 ∧ jq u9.2 (k_X3_lose I R k).2.2) (fun u9 H => va_P D vwCl (wC cI cS ad u9.1 u9.2) H) := by
  refine JV.mkI rfl (by decide +kernel) rfl (Nat.le_of_ble_eq_true rfl) ?_
  intro p e st mi ar bl mth cd Q ls C hB hl hret
  obtain ⟨hE, hP⟩ := hB
  have hx := C.1
  have hb := C.2.1
  have hl : lv_has ls 3 [(0, .ref (ad 0)), (1, .int (iI (k)))] := hl
  suffices hgo : ∀ (H : Heap) (lc : List Loc), va_P D vwCl (wC cI cS ad I R) H → va_S A st.heap H lc → W p l e rm_X3_lose st mi ar bl mth cd H lc 0 0 Q (F0 mi 0 ls []) from hgo _ _ hP va_S.rf
  clear hP
  intro H lc hP hS
  have hT := hV.town
  have hW := hT.works
  have hK := hT.wards
  have hSt := hV.stands
  have hset := hT.set
  have hset2 := pow_bd hW hset
  have hcel := hT.cells
  have hlaw := hT.law
  have hrd := hT.reads
  have hP8 := pw8 hW
  refine jz_sub (P := 0 ≤ k ∧ k < 4) (fun hin => ?_) (fun hin => ?_)
  · skip
    refine lv_aload_n hx hb dX3_lose_0 rfl (lv_at hl 0 rfl) ?_
    refine lv_iload_n hx hb dX3_lose_1 rfl (lv_at hl 1 rfl) ?_
    refine jc_V C hl.1 (jpreV hE hP 3 0 rfl rfl) (c_X3_sheetAtI k (show 0 ≤ k ∧ k < 4 from (by omega))) (cwV 1 C.2.2.2.2 gX3_lose_X3_sheetAt rfl rfl rfl (by decide +kernel) ⟨Nat.le_of_ble_eq_true rfl, Nat.le_of_ble_eq_true rfl⟩) (As := [.int (iI (k))]) (v := .ref (ad (25 + 2 * (Int.toNat k)))) (hn := rfl) (hst := rfl) (rest := []) (hW := Nat.le_of_ble_eq_true rfl) (hdg := dX3_lose_2) (hf := ⟨Nat.le_of_ble_eq_true rfl, Nat.le_of_ble_eq_true rfl⟩) ?_
    refine lv_astore_n (lv' := [(2, .ref (ad (25 + 2 * (Int.toNat k)))), (0, .ref (ad 0)), (1, .int (iI (k)))]) hx hb dX3_lose_5 rfl hl (by decide) rfl (fun ls hl => ?_)
    refine lv_aload_n hx hb dX3_lose_6 rfl (lv_at hl 0 rfl) ?_
    refine lv_ifnonnull (tgt := 12) hx hb dX3_lose_7 (by decide) ?_
    refine lv_aload_n hx hb dX3_lose_12 rfl (lv_at hl 0 rfl) ?_
    refine jc_V C hl.1 (jpreH hE hP (by omega)) (c_X0_hasRow (Int.toNat k) (show (Int.toNat k) < 4 from (by omega)) (show -2147483648 ≤ I 25 (Int.toNat k) ∧ I 25 (Int.toNat k) < 2147483648 from (by have h9 := hV.lane (k := (Int.toNat k)) (by omega); omega))) (cwV 0 C.2.2.2.2 gX3_lose_X0_hasRow rfl rfl rfl (by decide +kernel) ⟨Nat.le_of_ble_eq_true rfl, Nat.le_of_ble_eq_true rfl⟩) (As := []) (v := .int (iI (if ¬ I 25 (Int.toNat k) = -1 then 1 else 0))) (hn := rfl) (hst := rfl) (rest := []) (hW := Nat.le_of_ble_eq_true rfl) (hdg := dX3_lose_13) (hf := ⟨Nat.le_of_ble_eq_true rfl, Nat.le_of_ble_eq_true rfl⟩) ?_
    refine jz_bool_ne (tgt := 21) C dX3_lose_16 (by decide) (fun h16 => ?_) (fun h16 => ?_)
    · skip
      refine lv_aload_n hx hb dX3_lose_21 rfl (lv_at hl 0 rfl) ?_
      refine jz_const C dX3_lose_22 ?_
      refine jz_const C dX3_lose_23 ?_
      refine jw_V C hl.1 (jpreH hE hP (by omega)) (c_X0_renew (A := A) (jDC hD) (-1) 0 (Int.toNat k) (show (Int.toNat k) < 4 from (by omega))) (cwV 2 C.2.2.2.2 gX3_lose_X0_renew rfl rfl rfl (by decide +kernel) ⟨Nat.le_of_ble_eq_true rfl, Nat.le_of_ble_eq_true rfl⟩) (As := [.int (iI (-1)), .int (iI (0))]) (hn := rfl) (hst := rfl) (rest := []) (hW := Nat.le_of_ble_eq_true rfl) (hdg := dX3_lose_24) (hf := ⟨Nat.le_of_ble_eq_true rfl, Nat.le_of_ble_eq_true rfl⟩) hS (fun v9 uq24 H lc hq9 hP hS => ?_)
      subst hq9
      have hP : va_P D vwCl (wC cI cS ad (u2 (u2 I 25 (Int.toNat k) (-1)) 26 (Int.toNat k) 0) (uR R (26 + 2 * (Int.toNat k)) (fl (R (26 + 2 * (Int.toNat k))) 0 60))) H := hP
      refine jz_const C dX3_lose_27 ?_
      have hk9 : k_X3_lose I R k = (1, (u2 (u2 I 25 (Int.toNat k) (-1)) 26 (Int.toNat k) 0), (uR R (26 + 2 * (Int.toNat k)) (fl (R (26 + 2 * (Int.toNat k))) 0 60))) := by rw [k_X3_lose, (if_pos hin), (if_pos h16)]
      exact hret _ ((u2 (u2 I 25 (Int.toNat k) (-1)) 26 (Int.toNat k) 0), (uR R (26 + 2 * (Int.toNat k)) (fl (R (26 + 2 * (Int.toNat k))) 0 60))) _ _ _ _ dX3_lose_28 ⟨by rw [hk9], by rw [hk9], by rw [hk9]; exact (fun q h14 h4 => by first | rfl | exact uR_n h14 | exact uR_n h4 | exact (uR_n h14).trans (uR_n h4) | exact (uR_n h4).trans (uR_n h14))⟩ hP hS
    · skip
      refine jz_const C dX3_lose_19 ?_
      have hk9 : k_X3_lose I R k = (0, I, R) := by rw [k_X3_lose, (if_pos hin), (if_neg h16)]
      exact hret _ (I, R) _ _ _ _ dX3_lose_20 ⟨by rw [hk9], by rw [hk9], by rw [hk9]; exact (fun q h14 h4 => by first | rfl | exact uR_n h14 | exact uR_n h4 | exact (uR_n h14).trans (uR_n h4) | exact (uR_n h4).trans (uR_n h14))⟩ hP hS
  · skip
    refine lv_aload_n hx hb dX3_lose_0 rfl (lv_at hl 0 rfl) ?_
    refine lv_iload_n hx hb dX3_lose_1 rfl (lv_at hl 1 rfl) ?_
    refine jc_V C hl.1 (jpreV hE hP 3 0 rfl rfl) (c_X3_sheetAtO k (show ¬ (0 ≤ k ∧ k < 4) from (by omega)) (show -2147483648 ≤ k ∧ k < 2147483648 from (by omega))) (cwV 1 C.2.2.2.2 gX3_lose_X3_sheetAt rfl rfl rfl (by decide +kernel) ⟨Nat.le_of_ble_eq_true rfl, Nat.le_of_ble_eq_true rfl⟩) (As := [.int (iI (k))]) (v := .null) (hn := rfl) (hst := rfl) (rest := []) (hW := Nat.le_of_ble_eq_true rfl) (hdg := dX3_lose_2) (hf := ⟨Nat.le_of_ble_eq_true rfl, Nat.le_of_ble_eq_true rfl⟩) ?_
    refine lv_astore_nN (lv' := [(2, .null), (0, .ref (ad 0)), (1, .int (iI (k)))]) hx hb dX3_lose_5 rfl hl (by decide) rfl (fun ls hl => ?_)
    refine lv_aload_nN hx hb dX3_lose_6 rfl (lv_at hl 0 rfl) ?_
    refine lv_ifnonnullN hx hb dX3_lose_7 ?_
    refine jz_const C dX3_lose_10 ?_
    have hk9 : k_X3_lose I R k = (-1, I, R) := by rw [k_X3_lose, (if_neg hin)]
    exact hret _ (I, R) _ _ _ _ dX3_lose_11 ⟨by rw [hk9], by rw [hk9], by rw [hk9]; exact (fun q h14 h4 => by first | rfl | exact uR_n h14 | exact uR_n h4 | exact (uR_n h14).trans (uR_n h4) | exact (uR_n h4).trans (uR_n h14))⟩ hP hS
def k_X3_put (I R : Nat → Nat → Int) (k : Int) (i : Int) (v : Int) : Int × (Nat → Nat → Int) × (Nat → Nat → Int) := if 0 ≤ k ∧ k < 4 then (if (ft (I 25 (Int.toNat k)) (I 26 (Int.toNat k)) (I 25 (Int.toNat k)) i 1) = 0 then ((1, (u2 I 0 6 0), (uR R (26 + 2 * (Int.toNat k)) (u1 (R (26 + 2 * (Int.toNat k))) (Int.toNat i) (cut (I 25 (Int.toNat k)) v))))) else ((-10 - (ft (I 25 (Int.toNat k)) (I 26 (Int.toNat k)) (I 25 (Int.toNat k)) i 1), (u2 (u2 I 0 6 0) 0 6 (ft (I 25 (Int.toNat k)) (I 26 (Int.toNat k)) (I 25 (Int.toNat k)) i 1)), R))) else ((-1, (u2 I 0 6 0), R))
abbrev rm_X3_put : Room := { frames := 2, cells := 0, slots := 0, locals := 45 }
set_option maxHeartbeats 4000000 in
set_option maxRecDepth 100000 in
theorem c_X3_put {l : Launch} {D : va_G} {cI cS : ClassId} {ad : Nat → Nat} {I R : Nat → Nat → Int} {A : Nat → Prop} (hD : va_D A (wC cI cS ad I R))  (k : Int) (i : Int) (v : Int)  (hV : VI I R) (hr_k : -2147483648 ≤ k ∧ k < 2147483648) (hr_i : -2147483648 ≤ i ∧ i < 2147483648) (hr_v : -2147483648 ≤ v ∧ v < 2147483648): JV l yX3_put wsX3_put rm_X3_put (jB D cI cS (wC cI cS ad I R)) A [.ref (ad 0), .int (iI (k)), .int (iI (i)), .int (iI (v))] (fun v9 (u9 : (Nat → Nat → Int) × (Nat → Nat → Int)) => v9 = some (.int (iI (k_X3_put I R k i v).1)) ∧ u9.1 = (k_X3_put I R k i v).2.1 ∧ jq u9.2 (k_X3_put I R k i v).2.2) (fun u9 H => va_P D vwCl (wC cI cS ad u9.1 u9.2) H) := by
  refine JV.mkI rfl (by decide +kernel) rfl (Nat.le_of_ble_eq_true rfl) ?_
  intro p e st mi ar bl mth cd Q ls C hB hl hret
  obtain ⟨hE, hP⟩ := hB
  have hx := C.1
  have hb := C.2.1
  have hl : lv_has ls 6 [(0, .ref (ad 0)), (1, .int (iI (k))), (2, .int (iI (i))), (3, .int (iI (v)))] := hl
  have hin0 : ∀ w ∈ wsX00, w ∈ wsX3_put := fun _ h => List.mem_cons_of_mem _ (List.mem_append_right _ h)
  have hin3 : ∀ w ∈ wsX30, w ∈ wsX3_put := fun _ h => List.mem_cons_of_mem _ (List.mem_append_left _ (List.mem_append_right _ h))
  suffices hgo : ∀ (H : Heap) (lc : List Loc), va_P D vwCl (wC cI cS ad I R) H → va_S A st.heap H lc → W p l e rm_X3_put st mi ar bl mth cd H lc 0 0 Q (F0 mi 0 ls []) from hgo _ _ hP va_S.rf
  clear hP
  intro H lc hP hS
  have hT := hV.town
  have hW := hT.works
  have hK := hT.wards
  have hSt := hV.stands
  have hset := hT.set
  have hset2 := pow_bd hW hset
  have hcel := hT.cells
  have hlaw := hT.law
  have hrd := hT.reads
  have hP8 := pw8 hW
  refine lv_aload_n hx hb dX3_put_0 rfl (lv_at hl 0 rfl) ?_
  refine jz_const C dX3_put_1 ?_
  refine fp_V_lastFault C hin3 hE hP (jDC hD) hS (List.mem_of_getElem? (i := 1) rfl) dX3_put_2 (fun H lc hP hS => ?_)
  refine jz_sub (P := 0 ≤ k ∧ k < 4) (fun hin => ?_) (fun hin => ?_)
  · skip
    refine lv_aload_n hx hb dX3_put_5 rfl (lv_at hl 0 rfl) ?_
    refine lv_iload_n hx hb dX3_put_6 rfl (lv_at hl 1 rfl) ?_
    refine jc_V C hl.1 (jpreV hE hP 3 0 rfl rfl) (c_X3_sheetAtI k (show 0 ≤ k ∧ k < 4 from (by omega))) (cwV 1 C.2.2.2.2 gX3_put_X3_sheetAt rfl rfl rfl (by decide +kernel) ⟨Nat.le_of_ble_eq_true rfl, Nat.le_of_ble_eq_true rfl⟩) (As := [.int (iI (k))]) (v := .ref (ad (25 + 2 * (Int.toNat k)))) (hn := rfl) (hst := rfl) (rest := []) (hW := Nat.le_of_ble_eq_true rfl) (hdg := dX3_put_7) (hf := ⟨Nat.le_of_ble_eq_true rfl, Nat.le_of_ble_eq_true rfl⟩) ?_
    refine lv_astore (lv' := [(4, .ref (ad (25 + 2 * (Int.toNat k)))), (0, .ref (ad 0)), (1, .int (iI (k))), (2, .int (iI (i))), (3, .int (iI (v)))]) hx hb dX3_put_10 hl (by decide) rfl (fun ls hl => ?_)
    refine lv_aload hx hb dX3_put_12 (lv_at hl 0 rfl) ?_
    refine lv_ifnonnull (tgt := 19) hx hb dX3_put_14 (by decide) ?_
    have hln := hV.lane (k := Int.toNat k) (by omega)
    have hsz := hV.size (k := Int.toNat k) (by omega)
    have hft := ft_bd (ln := I 25 (Int.toNat k)) (sz := I 26 (Int.toNat k)) (al := I 25 (Int.toNat k)) (i := i) (n := 1)
    refine lv_aload hx hb dX3_put_19 (lv_at hl 0 rfl) ?_
    refine lv_aload hx hb dX3_put_21 (lv_at hl 0 rfl) ?_
    refine fg_H_lane C hin0 hE (by omega) hP (v := I 25 (Int.toNat k)) (List.mem_of_getElem? (i := 2) rfl) dX3_put_23 rfl ?_
    refine lv_iload_n hx hb dX3_put_26 rfl (lv_at hl 3 rfl) ?_
    refine jz_const C dX3_put_27 ?_
    refine jc_V C hl.1 (jpreH hE hP (by omega)) (c_X0_faultOfTaking (I 25 (Int.toNat k)) i 1 (Int.toNat k) (show (Int.toNat k) < 4 from (by omega)) (show -2147483648 ≤ I 25 (Int.toNat k) ∧ I 25 (Int.toNat k) < 2147483648 from (by have h9 := hV.lane (k := (Int.toNat k)) (by omega); omega)) (hV.size (by omega)) (show -2147483648 ≤ (I 25 (Int.toNat k)) ∧ (I 25 (Int.toNat k)) < 2147483648 from (by omega)) (show -2147483648 ≤ i ∧ i < 2147483648 from (by omega)) (show -2147483648 ≤ 1 ∧ 1 < 2147483648 from (by omega))) (cwV 3 C.2.2.2.2 gX3_put_X0_faultOfTaking rfl rfl rfl (by decide +kernel) ⟨Nat.le_of_ble_eq_true rfl, Nat.le_of_ble_eq_true rfl⟩) (As := [.int (iI (I 25 (Int.toNat k))), .int (iI (i)), .int (iI (1))]) (v := .int (iI (ft (I 25 (Int.toNat k)) (I 26 (Int.toNat k)) (I 25 (Int.toNat k)) i 1))) (hn := rfl) (hst := rfl) (rest := []) (hW := Nat.le_of_ble_eq_true rfl) (hdg := dX3_put_28) (hf := ⟨Nat.le_of_ble_eq_true rfl, Nat.le_of_ble_eq_true rfl⟩) ?_
    refine lv_istore (lv' := [(5, .int (iI (ft (I 25 (Int.toNat k)) (I 26 (Int.toNat k)) (I 25 (Int.toNat k)) i 1))), (4, .ref (ad (25 + 2 * (Int.toNat k)))), (0, .ref (ad 0)), (1, .int (iI (k))), (2, .int (iI (i))), (3, .int (iI (v)))]) hx hb dX3_put_31 hl (by decide) rfl (fun ls hl => ?_)
    refine lv_iload hx hb dX3_put_33 (lv_at hl 0 rfl) ?_
    refine jz_if_eq (tgt := 45) C dX3_put_35 (by decide) (by omega) (fun h35 => ?_) (fun h35 => ?_)
    · skip
      have hix := ft_0 h35
      refine lv_aload hx hb dX3_put_45 (lv_at hl 1 rfl) ?_
      refine fg_H_row C hin0 hE (by omega) hP (List.mem_of_getElem? (i := 3) rfl) dX3_put_47 ?_
      refine lv_iload_n hx hb dX3_put_50 rfl (lv_at hl 4 rfl) ?_
      refine lv_aload hx hb dX3_put_51 (lv_at hl 1 rfl) ?_
      refine lv_iload_n hx hb dX3_put_53 rfl (lv_at hl 5 rfl) ?_
      refine jc_V C hl.1 (jpreH hE hP (by omega)) (c_X0_cut v (Int.toNat k) (show (Int.toNat k) < 4 from (by omega)) (show -2147483648 ≤ I 25 (Int.toNat k) ∧ I 25 (Int.toNat k) < 2147483648 from (by have h9 := hV.lane (k := (Int.toNat k)) (by omega); omega))) (cwV 1 C.2.2.2.2 gX3_put_X0_cut rfl rfl rfl (by decide +kernel) ⟨Nat.le_of_ble_eq_true rfl, Nat.le_of_ble_eq_true rfl⟩) (As := [.int (iI (v))]) (v := .int (iI (cut (I 25 (Int.toNat k)) v))) (hn := rfl) (hst := rfl) (rest := [.int (iI (i)), .ref (ad (26 + 2 * (Int.toNat k)))]) (hW := Nat.le_of_ble_eq_true rfl) (hdg := dX3_put_54) (hf := ⟨Nat.le_of_ble_eq_true rfl, Nat.le_of_ble_eq_true rfl⟩) ?_
      refine jw_S C hl.1 (jpreS hE hP) (c_X3_write (A := A) (jDC hD) i (cut (I 25 (Int.toNat k)) v) (26 + 2 * (Int.toNat k)) 60 (R (26 + 2 * (Int.toNat k))) (ad (26 + 2 * (Int.toNat k))) (wC_row (by omega)) (by decide) (show 0 ≤ i ∧ i < 60 from (by omega))) (va_cwS 3 C.2.2.2.2 gX3_put_X3_write rfl rfl rfl (by decide +kernel) ⟨Nat.le_of_ble_eq_true rfl, Nat.le_of_ble_eq_true rfl⟩) (As := [.ref (ad (26 + 2 * (Int.toNat k))), .int (iI (i)), .int (iI (cut (I 25 (Int.toNat k)) v))]) (hn := rfl) (hst := rfl) (rest := []) (hW := Nat.le_of_ble_eq_true rfl) (hdg := dX3_put_57) (hf := ⟨Nat.le_of_ble_eq_true rfl, Nat.le_of_ble_eq_true rfl⟩) hS (fun v9 uq57 H lc hq9 hP hS => ?_)
      subst hq9
      have hP : va_P D vwCl (wC cI cS ad (u2 I 0 6 0) (uR R (26 + 2 * (Int.toNat k)) (u1 (R (26 + 2 * (Int.toNat k))) (Int.toNat i) (cut (I 25 (Int.toNat k)) v)))) H := (wC_set (by omega) hP)
      refine jz_const C dX3_put_60 ?_
      have hk9 : k_X3_put I R k i v = (1, (u2 I 0 6 0), (uR R (26 + 2 * (Int.toNat k)) (u1 (R (26 + 2 * (Int.toNat k))) (Int.toNat i) (cut (I 25 (Int.toNat k)) v)))) := by rw [k_X3_put, (if_pos hin), (if_pos h35)]
      exact hret _ ((u2 I 0 6 0), (uR R (26 + 2 * (Int.toNat k)) (u1 (R (26 + 2 * (Int.toNat k))) (Int.toNat i) (cut (I 25 (Int.toNat k)) v)))) _ _ _ _ dX3_put_61 ⟨by rw [hk9], by rw [hk9], by rw [hk9]; exact (fun q h14 h4 => by first | rfl | exact uR_n h14 | exact uR_n h4 | exact (uR_n h14).trans (uR_n h4) | exact (uR_n h4).trans (uR_n h14))⟩ hP hS
    · skip
      refine lv_aload_n hx hb dX3_put_38 rfl (lv_at hl 2 rfl) ?_
      refine lv_iload hx hb dX3_put_39 (lv_at hl 0 rfl) ?_
      refine jw_V C hl.1 (jpreV hE hP 3 0 rfl rfl) (c_X3_fail (A := A) (jDC hD) (ft (I 25 (Int.toNat k)) (I 26 (Int.toNat k)) (I 25 (Int.toNat k)) i 1) ) (cwV 1 C.2.2.2.2 gX3_put_X3_fail rfl rfl rfl (by decide +kernel) ⟨Nat.le_of_ble_eq_true rfl, Nat.le_of_ble_eq_true rfl⟩) (As := [.int (iI (ft (I 25 (Int.toNat k)) (I 26 (Int.toNat k)) (I 25 (Int.toNat k)) i 1))]) (hn := rfl) (hst := rfl) (rest := []) (hW := Nat.le_of_ble_eq_true rfl) (hdg := dX3_put_41) (hf := ⟨Nat.le_of_ble_eq_true rfl, Nat.le_of_ble_eq_true rfl⟩) hS (fun v9 uq41 H lc hq9 hP hS => ?_)
      subst hq9
      have hP : va_P D vwCl (wC cI cS ad (u2 (u2 I 0 6 0) 0 6 (ft (I 25 (Int.toNat k)) (I 26 (Int.toNat k)) (I 25 (Int.toNat k)) i 1)) R) H := hP
      have hk9 : k_X3_put I R k i v = (-10 - (ft (I 25 (Int.toNat k)) (I 26 (Int.toNat k)) (I 25 (Int.toNat k)) i 1), (u2 (u2 I 0 6 0) 0 6 (ft (I 25 (Int.toNat k)) (I 26 (Int.toNat k)) (I 25 (Int.toNat k)) i 1)), R) := by rw [k_X3_put, (if_pos hin), (if_neg (h35))]
      exact hret _ ((u2 (u2 I 0 6 0) 0 6 (ft (I 25 (Int.toNat k)) (I 26 (Int.toNat k)) (I 25 (Int.toNat k)) i 1)), R) _ _ _ _ dX3_put_44 ⟨by rw [hk9], by rw [hk9], by rw [hk9]; exact (fun q h14 h4 => by first | rfl | exact uR_n h14 | exact uR_n h4 | exact (uR_n h14).trans (uR_n h4) | exact (uR_n h4).trans (uR_n h14))⟩ hP hS
  · skip
    refine lv_aload_n hx hb dX3_put_5 rfl (lv_at hl 0 rfl) ?_
    refine lv_iload_n hx hb dX3_put_6 rfl (lv_at hl 1 rfl) ?_
    refine jc_V C hl.1 (jpreV hE hP 3 0 rfl rfl) (c_X3_sheetAtO k (show ¬ (0 ≤ k ∧ k < 4) from (by omega)) (show -2147483648 ≤ k ∧ k < 2147483648 from (by omega))) (cwV 1 C.2.2.2.2 gX3_put_X3_sheetAt rfl rfl rfl (by decide +kernel) ⟨Nat.le_of_ble_eq_true rfl, Nat.le_of_ble_eq_true rfl⟩) (As := [.int (iI (k))]) (v := .null) (hn := rfl) (hst := rfl) (rest := []) (hW := Nat.le_of_ble_eq_true rfl) (hdg := dX3_put_7) (hf := ⟨Nat.le_of_ble_eq_true rfl, Nat.le_of_ble_eq_true rfl⟩) ?_
    refine lv_astoreN (lv' := [(4, .null), (0, .ref (ad 0)), (1, .int (iI (k))), (2, .int (iI (i))), (3, .int (iI (v)))]) hx hb dX3_put_10 hl (by decide) rfl (fun ls hl => ?_)
    refine lv_aloadN hx hb dX3_put_12 (lv_at hl 0 rfl) ?_
    refine lv_ifnonnullN hx hb dX3_put_14 ?_
    refine jz_const C dX3_put_17 ?_
    have hk9 : k_X3_put I R k i v = (-1, (u2 I 0 6 0), R) := by rw [k_X3_put, (if_neg hin)]
    exact hret _ ((u2 I 0 6 0), R) _ _ _ _ dX3_put_18 ⟨by rw [hk9], by rw [hk9], by rw [hk9]; exact (fun q h14 h4 => by first | rfl | exact uR_n h14 | exact uR_n h4 | exact (uR_n h14).trans (uR_n h4) | exact (uR_n h4).trans (uR_n h14))⟩ hP hS
def k_X3_cell (I R : Nat → Nat → Int) (k : Int) (i : Int) (lane : Int) : Int × (Nat → Nat → Int) × (Nat → Nat → Int) := if 0 ≤ k ∧ k < 4 then (if 0 ≤ lane ∧ lane ≤ 2 then (if (ft (I 25 (Int.toNat k)) (I 26 (Int.toNat k)) lane i 1) = 0 then (((R (26 + 2 * (Int.toNat k))) (Int.toNat i), (u2 (u2 I 0 6 0) 0 6 (ft (I 25 (Int.toNat k)) (I 26 (Int.toNat k)) lane i 1)), R)) else ((-9223372036854775808, (u2 (u2 I 0 6 0) 0 6 (ft (I 25 (Int.toNat k)) (I 26 (Int.toNat k)) lane i 1)), R))) else ((-9223372036854775808, (u2 I 0 6 0), R))) else ((-9223372036854775808, (u2 I 0 6 0), R))
abbrev rm_X3_cell : Room := { frames := 2, cells := 0, slots := 0, locals := 45 }
set_option maxHeartbeats 4000000 in
set_option maxRecDepth 100000 in
theorem c_X3_cell {l : Launch} {D : va_G} {cI cS : ClassId} {ad : Nat → Nat} {I R : Nat → Nat → Int} {A : Nat → Prop} (hD : va_D A (wC cI cS ad I R))  (k : Int) (i : Int) (lane : Int)  (hV : VI I R) (hr_k : -2147483648 ≤ k ∧ k < 2147483648) (hr_i : -2147483648 ≤ i ∧ i < 2147483648) (hr_lane : -2147483648 ≤ lane ∧ lane < 2147483648): JV l yX3_cell wsX3_cell rm_X3_cell (jB D cI cS (wC cI cS ad I R)) A [.ref (ad 0), .int (iI (k)), .int (iI (i)), .int (iI (lane))] (fun v9 (u9 : (Nat → Nat → Int) × (Nat → Nat → Int)) => v9 = some (.long (lI (k_X3_cell I R k i lane).1)) ∧ u9.1 = (k_X3_cell I R k i lane).2.1 ∧ jq u9.2 (k_X3_cell I R k i lane).2.2) (fun u9 H => va_P D vwCl (wC cI cS ad u9.1 u9.2) H) := by
  refine JV.mkL rfl (by decide +kernel) rfl (Nat.le_of_ble_eq_true rfl) ?_
  intro p e st mi ar bl mth cd Q ls C hB hl hret
  obtain ⟨hE, hP⟩ := hB
  have hx := C.1
  have hb := C.2.1
  have hl : lv_has ls 5 [(0, .ref (ad 0)), (1, .int (iI (k))), (2, .int (iI (i))), (3, .int (iI (lane)))] := hl
  have hin0 : ∀ w ∈ wsX00, w ∈ wsX3_cell := fun _ h => List.mem_cons_of_mem _ (List.mem_append_right _ h)
  have hin3 : ∀ w ∈ wsX30, w ∈ wsX3_cell := fun _ h => List.mem_cons_of_mem _ (List.mem_append_left _ (List.mem_append_right _ h))
  suffices hgo : ∀ (H : Heap) (lc : List Loc), va_P D vwCl (wC cI cS ad I R) H → va_S A st.heap H lc → W p l e rm_X3_cell st mi ar bl mth cd H lc 0 0 Q (F0 mi 0 ls []) from hgo _ _ hP va_S.rf
  clear hP
  intro H lc hP hS
  have hT := hV.town
  have hW := hT.works
  have hK := hT.wards
  have hSt := hV.stands
  have hset := hT.set
  have hset2 := pow_bd hW hset
  have hcel := hT.cells
  have hlaw := hT.law
  have hrd := hT.reads
  have hP8 := pw8 hW
  refine lv_aload_n hx hb dX3_cell_0 rfl (lv_at hl 0 rfl) ?_
  refine jz_const C dX3_cell_1 ?_
  refine fp_V_lastFault C hin3 hE hP (jDC hD) hS (List.mem_of_getElem? (i := 1) rfl) dX3_cell_2 (fun H lc hP hS => ?_)
  refine jz_sub (P := 0 ≤ k ∧ k < 4) (fun hin => ?_) (fun hin => ?_)
  · skip
    refine lv_aload_n hx hb dX3_cell_5 rfl (lv_at hl 0 rfl) ?_
    refine lv_iload_n hx hb dX3_cell_6 rfl (lv_at hl 1 rfl) ?_
    refine jc_V C hl.1 (jpreV hE hP 3 0 rfl rfl) (c_X3_sheetAtI k (show 0 ≤ k ∧ k < 4 from (by omega))) (cwV 1 C.2.2.2.2 gX3_cell_X3_sheetAt rfl rfl rfl (by decide +kernel) ⟨Nat.le_of_ble_eq_true rfl, Nat.le_of_ble_eq_true rfl⟩) (As := [.int (iI (k))]) (v := .ref (ad (25 + 2 * (Int.toNat k)))) (hn := rfl) (hst := rfl) (rest := []) (hW := Nat.le_of_ble_eq_true rfl) (hdg := dX3_cell_7) (hf := ⟨Nat.le_of_ble_eq_true rfl, Nat.le_of_ble_eq_true rfl⟩) ?_
    refine lv_astore (lv' := [(4, .ref (ad (25 + 2 * (Int.toNat k)))), (0, .ref (ad 0)), (1, .int (iI (k))), (2, .int (iI (i))), (3, .int (iI (lane)))]) hx hb dX3_cell_10 hl (by decide) rfl (fun ls hl => ?_)
    refine lv_aload hx hb dX3_cell_12 (lv_at hl 0 rfl) ?_
    refine lv_ifnull hx hb dX3_cell_14 ?_
    refine lv_iload_n hx hb dX3_cell_17 rfl (lv_at hl 4 rfl) ?_
    refine jz_const C dX3_cell_18 ?_
    refine jc_S C hl.1 (jpreS hE hP) (c_X3_isUpTo lane 2 (show -2147483648 ≤ lane ∧ lane < 2147483648 from (by omega)) (show -2147483648 ≤ 2 ∧ 2 < 2147483648 from (by omega))) (va_cwS 2 C.2.2.2.2 gX3_cell_X3_isUpTo rfl rfl rfl (by decide +kernel) ⟨Nat.le_of_ble_eq_true rfl, Nat.le_of_ble_eq_true rfl⟩) (As := [.int (iI (lane)), .int (iI (2))]) (v := .int (iI (if 0 ≤ lane ∧ lane ≤ 2 then 1 else 0))) (hn := rfl) (hst := rfl) (rest := []) (hW := Nat.le_of_ble_eq_true rfl) (hdg := dX3_cell_19) (hf := ⟨Nat.le_of_ble_eq_true rfl, Nat.le_of_ble_eq_true rfl⟩) ?_
    refine jz_bool_ne (tgt := 29) C dX3_cell_22 (by decide) (fun h22 => ?_) (fun h22 => ?_)
    · skip
      have hln := hV.lane (k := Int.toNat k) (by omega)
      have hsz := hV.size (k := Int.toNat k) (by omega)
      have hft := ft_bd (ln := I 25 (Int.toNat k)) (sz := I 26 (Int.toNat k)) (al := lane) (i := i) (n := 1)
      refine lv_aload_n hx hb dX3_cell_29 rfl (lv_at hl 1 rfl) ?_
      refine lv_aload hx hb dX3_cell_30 (lv_at hl 0 rfl) ?_
      refine lv_iload_n hx hb dX3_cell_32 rfl (lv_at hl 4 rfl) ?_
      refine lv_iload_n hx hb dX3_cell_33 rfl (lv_at hl 3 rfl) ?_
      refine jz_const C dX3_cell_34 ?_
      refine jc_V C hl.1 (jpreH hE hP (by omega)) (c_X0_faultOfTaking lane i 1 (Int.toNat k) (show (Int.toNat k) < 4 from (by omega)) (show -2147483648 ≤ I 25 (Int.toNat k) ∧ I 25 (Int.toNat k) < 2147483648 from (by have h9 := hV.lane (k := (Int.toNat k)) (by omega); omega)) (hV.size (by omega)) (show -2147483648 ≤ lane ∧ lane < 2147483648 from (by omega)) (show -2147483648 ≤ i ∧ i < 2147483648 from (by omega)) (show -2147483648 ≤ 1 ∧ 1 < 2147483648 from (by omega))) (cwV 3 C.2.2.2.2 gX3_cell_X0_faultOfTaking rfl rfl rfl (by decide +kernel) ⟨Nat.le_of_ble_eq_true rfl, Nat.le_of_ble_eq_true rfl⟩) (As := [.int (iI (lane)), .int (iI (i)), .int (iI (1))]) (v := .int (iI (ft (I 25 (Int.toNat k)) (I 26 (Int.toNat k)) lane i 1))) (hn := rfl) (hst := rfl) (rest := [.ref (ad 0)]) (hW := Nat.le_of_ble_eq_true rfl) (hdg := dX3_cell_35) (hf := ⟨Nat.le_of_ble_eq_true rfl, Nat.le_of_ble_eq_true rfl⟩) ?_
      refine fp_V_lastFault C hin3 hE hP (jDC hD) hS (List.mem_of_getElem? (i := 1) rfl) dX3_cell_38 (fun H lc hP hS => ?_)
      refine lv_aload_n hx hb dX3_cell_41 rfl (lv_at hl 1 rfl) ?_
      refine fg_V_lastFault C hin3 hE hP (v := ft (I 25 (Int.toNat k)) (I 26 (Int.toNat k)) lane i 1) (List.mem_of_getElem? (i := 1) rfl) dX3_cell_42 rfl ?_
      refine jz_if_ne (tgt := 61) C dX3_cell_45 (by decide) (by omega) (fun h45 => ?_) (fun h45 => ?_)
      · skip
        refine jz_ldc2 (z := -9223372036854775808) C (List.mem_of_getElem? (i := 2) rfl) (by decide +kernel) dX3_cell_61 ?_
        have hk9 : k_X3_cell I R k i lane = (-9223372036854775808, (u2 (u2 I 0 6 0) 0 6 (ft (I 25 (Int.toNat k)) (I 26 (Int.toNat k)) lane i 1)), R) := by rw [k_X3_cell, (if_pos hin), (if_pos h22), (if_neg (h45))]
        exact hret _ ((u2 (u2 I 0 6 0) 0 6 (ft (I 25 (Int.toNat k)) (I 26 (Int.toNat k)) lane i 1)), R) _ _ _ _ dX3_cell_64 ⟨by rw [hk9], by rw [hk9], by rw [hk9]; exact (fun q h14 h4 => by first | rfl | exact uR_n h14 | exact uR_n h4 | exact (uR_n h14).trans (uR_n h4) | exact (uR_n h4).trans (uR_n h14))⟩ hP hS
      · skip
        have hix := ft_0 h45
        have hrow := hV.row (k := Int.toNat k) (by omega) (j := Int.toNat i) (by omega)
        refine lv_aload hx hb dX3_cell_48 (lv_at hl 0 rfl) ?_
        refine fg_H_row C hin0 hE (by omega) hP (List.mem_of_getElem? (i := 3) rfl) dX3_cell_50 ?_
        refine lv_iload_n hx hb dX3_cell_53 rfl (lv_at hl 3 rfl) ?_
        refine jc_S C hl.1 (jpreS hE hP) (c_X3_read i (26 + 2 * (Int.toNat k)) 60 (R (26 + 2 * (Int.toNat k))) (ad (26 + 2 * (Int.toNat k))) (wC_row (by omega)) (by decide) (show 0 ≤ i ∧ i < 60 from (by omega))) (va_cwS 2 C.2.2.2.2 gX3_cell_X3_read rfl rfl rfl (by decide +kernel) ⟨Nat.le_of_ble_eq_true rfl, Nat.le_of_ble_eq_true rfl⟩) (As := [.ref (ad (26 + 2 * (Int.toNat k))), .int (iI (i))]) (v := .int (iI ((R (26 + 2 * (Int.toNat k))) (Int.toNat i)))) (hn := rfl) (hst := rfl) (rest := []) (hW := Nat.le_of_ble_eq_true rfl) (hdg := dX3_cell_54) (hf := ⟨Nat.le_of_ble_eq_true rfl, Nat.le_of_ble_eq_true rfl⟩) ?_
        refine jz_i2l C dX3_cell_57 (by omega) ?_
        refine lv_goto (tgt := 64) hx hb dX3_cell_58 (by decide) ?_
        have hk9 : k_X3_cell I R k i lane = ((R (26 + 2 * (Int.toNat k))) (Int.toNat i), (u2 (u2 I 0 6 0) 0 6 (ft (I 25 (Int.toNat k)) (I 26 (Int.toNat k)) lane i 1)), R) := by rw [k_X3_cell, (if_pos hin), (if_pos h22), (if_pos h45)]
        exact hret _ ((u2 (u2 I 0 6 0) 0 6 (ft (I 25 (Int.toNat k)) (I 26 (Int.toNat k)) lane i 1)), R) _ _ _ _ dX3_cell_64 ⟨by rw [hk9], by rw [hk9], by rw [hk9]; exact (fun q h14 h4 => by first | rfl | exact uR_n h14 | exact uR_n h4 | exact (uR_n h14).trans (uR_n h4) | exact (uR_n h4).trans (uR_n h14))⟩ hP hS
    · skip
      refine jz_ldc2 (z := -9223372036854775808) C (List.mem_of_getElem? (i := 2) rfl) (by decide +kernel) dX3_cell_25 ?_
      have hk9 : k_X3_cell I R k i lane = (-9223372036854775808, (u2 I 0 6 0), R) := by rw [k_X3_cell, (if_pos hin), (if_neg h22)]
      exact hret _ ((u2 I 0 6 0), R) _ _ _ _ dX3_cell_28 ⟨by rw [hk9], by rw [hk9], by rw [hk9]; exact (fun q h14 h4 => by first | rfl | exact uR_n h14 | exact uR_n h4 | exact (uR_n h14).trans (uR_n h4) | exact (uR_n h4).trans (uR_n h14))⟩ hP hS
  · skip
    refine lv_aload_n hx hb dX3_cell_5 rfl (lv_at hl 0 rfl) ?_
    refine lv_iload_n hx hb dX3_cell_6 rfl (lv_at hl 1 rfl) ?_
    refine jc_V C hl.1 (jpreV hE hP 3 0 rfl rfl) (c_X3_sheetAtO k (show ¬ (0 ≤ k ∧ k < 4) from (by omega)) (show -2147483648 ≤ k ∧ k < 2147483648 from (by omega))) (cwV 1 C.2.2.2.2 gX3_cell_X3_sheetAt rfl rfl rfl (by decide +kernel) ⟨Nat.le_of_ble_eq_true rfl, Nat.le_of_ble_eq_true rfl⟩) (As := [.int (iI (k))]) (v := .null) (hn := rfl) (hst := rfl) (rest := []) (hW := Nat.le_of_ble_eq_true rfl) (hdg := dX3_cell_7) (hf := ⟨Nat.le_of_ble_eq_true rfl, Nat.le_of_ble_eq_true rfl⟩) ?_
    refine lv_astoreN (lv' := [(4, .null), (0, .ref (ad 0)), (1, .int (iI (k))), (2, .int (iI (i))), (3, .int (iI (lane)))]) hx hb dX3_cell_10 hl (by decide) rfl (fun ls hl => ?_)
    refine lv_aloadN hx hb dX3_cell_12 (lv_at hl 0 rfl) ?_
    refine lv_ifnullN (tgt := 25) hx hb dX3_cell_14 (by decide) ?_
    refine jz_ldc2 (z := -9223372036854775808) C (List.mem_of_getElem? (i := 2) rfl) (by decide +kernel) dX3_cell_25 ?_
    have hk9 : k_X3_cell I R k i lane = (-9223372036854775808, (u2 I 0 6 0), R) := by rw [k_X3_cell, (if_neg hin)]
    exact hret _ ((u2 I 0 6 0), R) _ _ _ _ dX3_cell_28 ⟨by rw [hk9], by rw [hk9], by rw [hk9]; exact (fun q h14 h4 => by first | rfl | exact uR_n h14 | exact uR_n h4 | exact (uR_n h14).trans (uR_n h4) | exact (uR_n h4).trans (uR_n h14))⟩ hP hS
def k_X3_tell (I R : Nat → Nat → Int) (k : Int) : Int × (Nat → Nat → Int) × (Nat → Nat → Int) := if 0 ≤ k ∧ k < I 5 14 then (if R 6 (Int.toNat k) = 1 then ((R 7 (Int.toNat k) + 100, (u2 I 0 5 (31 * (31 * (I 0 5) + 2) + 1)), R)) else (if R 6 (Int.toNat k) = 2 then (((R 7 (Int.toNat k) + 100) + R 7 (Int.toNat k), (u2 I 0 5 (31 * (31 * (31 * (31 * (I 0 5) + 3) + 2) + 1) + 1)), R)) else ((R 7 (Int.toNat k), (u2 I 0 5 (31 * (I 0 5) + 1)), R)))) else ((-1, I, R))
abbrev rm_X3_tell : Room := { frames := 4, cells := 0, slots := 0, locals := 85 }
set_option maxHeartbeats 4000000 in
set_option maxRecDepth 100000 in
theorem c_X3_tell {l : Launch} {D : va_G} {cI cS : ClassId} {ad : Nat → Nat} {I R : Nat → Nat → Int} {A : Nat → Prop} (hD : va_D A (wC cI cS ad I R))  (k : Int)  (hV : VI I R) (hr_k : -2147483648 ≤ k ∧ k < 2147483648): JV l yX3_tell wsX3_tell rm_X3_tell (jB D cI cS (wC cI cS ad I R)) A [.ref (ad 0), .int (iI (k))] (fun v9 (u9 : (Nat → Nat → Int) × (Nat → Nat → Int)) => v9 = some (.int (iI (k_X3_tell I R k).1)) ∧ u9.1 = (k_X3_tell I R k).2.1 ∧ jq u9.2 (k_X3_tell I R k).2.2) (fun u9 H => va_P D vwCl (wC cI cS ad u9.1 u9.2) H) := by
  refine JV.mkI rfl (by decide +kernel) rfl (Nat.le_of_ble_eq_true rfl) ?_
  intro p e st mi ar bl mth cd Q ls C hB hl hret
  obtain ⟨hE, hP⟩ := hB
  have hx := C.1
  have hb := C.2.1
  have hl : lv_has ls 2 [(0, .ref (ad 0)), (1, .int (iI (k)))] := hl
  have hin2 : ∀ w ∈ wsX20, w ∈ wsX3_tell := fun _ h => List.mem_cons_of_mem _ (List.mem_append_right _ h)
  have hin3 : ∀ w ∈ wsX30, w ∈ wsX3_tell := fun _ h => List.mem_cons_of_mem _ (List.mem_append_left _ (List.mem_append_right _ h))
  suffices hgo : ∀ (H : Heap) (lc : List Loc), va_P D vwCl (wC cI cS ad I R) H → va_S A st.heap H lc → W p l e rm_X3_tell st mi ar bl mth cd H lc 0 0 Q (F0 mi 0 ls []) from hgo _ _ hP va_S.rf
  clear hP
  intro H lc hP hS
  have hT := hV.town
  have hW := hT.works
  have hK := hT.wards
  have hSt := hV.stands
  have hset := hT.set
  have hset2 := pow_bd hW hset
  have hcel := hT.cells
  have hlaw := hT.law
  have hrd := hT.reads
  have hP8 := pw8 hW
  refine lv_aload_n hx hb dX3_tell_0 rfl (lv_at hl 0 rfl) ?_
  refine fg_V_present C hin3 hE hP (List.mem_of_getElem? (i := 1) rfl) dX3_tell_1 ?_
  refine lv_iload_n hx hb dX3_tell_4 rfl (lv_at hl 1 rfl) ?_
  refine jc_V C hl.1 (jpreV hE hP 2 5 rfl rfl) (c_X2_hasWard k (show -2147483648 ≤ k ∧ k < 2147483648 from (by omega)) hT.wards) (cwV 1 C.2.2.2.2 gX3_tell_X2_hasWard rfl rfl rfl (by decide +kernel) ⟨Nat.le_of_ble_eq_true rfl, Nat.le_of_ble_eq_true rfl⟩) (As := [.int (iI (k))]) (v := .int (iI (if 0 ≤ k ∧ k < I 5 14 then 1 else 0))) (hn := rfl) (hst := rfl) (rest := []) (hW := Nat.le_of_ble_eq_true rfl) (hdg := dX3_tell_5) (hf := ⟨Nat.le_of_ble_eq_true rfl, Nat.le_of_ble_eq_true rfl⟩) ?_
  refine jz_bool_ne (tgt := 13) C dX3_tell_8 (by decide) (fun h8 => ?_) (fun h8 => ?_)
  · skip
    refine lv_aload_n hx hb dX3_tell_13 rfl (lv_at hl 0 rfl) ?_
    refine fg_V_present C hin3 hE hP (List.mem_of_getElem? (i := 1) rfl) dX3_tell_14 ?_
    refine fg_T_kinds C hin2 hE hP (List.mem_of_getElem? (i := 2) rfl) dX3_tell_17 ?_
    refine lv_iload_n hx hb dX3_tell_20 rfl (lv_at hl 1 rfl) ?_
    have hkd := hT.kind (Int.toNat k) (by omega)
    refine jc_S C hl.1 (jpreS hE hP) (c_X3_read k 6 6 (R 6) (ad 6) rfl (by decide) (show 0 ≤ k ∧ k < 6 from (by omega))) (va_cwS 2 C.2.2.2.2 gX3_tell_X3_read rfl rfl rfl (by decide +kernel) ⟨Nat.le_of_ble_eq_true rfl, Nat.le_of_ble_eq_true rfl⟩) (As := [.ref (ad 6), .int (iI (k))]) (v := .int (iI (R 6 (Int.toNat k)))) (hn := rfl) (hst := rfl) (rest := []) (hW := Nat.le_of_ble_eq_true rfl) (hdg := dX3_tell_21) (hf := ⟨Nat.le_of_ble_eq_true rfl, Nat.le_of_ble_eq_true rfl⟩) ?_
    refine jz_sub (P := R 6 (Int.toNat k) = 1) (fun h24_0 => ?_) (fun h24_0 => ?_)
    · refine jz_look (tgt := 58) C dX3_tell_24 (by decide) (by omega) (by first | (rw [h24_0]; done) | (rw [h24_0]; rfl)) (by decide) ?_
      refine lv_aload_n hx hb dX3_tell_58 rfl (lv_at hl 0 rfl) ?_
      refine lv_iload_n hx hb dX3_tell_59 rfl (lv_at hl 1 rfl) ?_
      refine jw_V C hl.1 (jpreV hE hP 3 0 rfl rfl) (c_X3_tellRich (A := A) (jDC hD) k hT (show 0 ≤ k ∧ k < 6 from (by omega))) (cwV 1 C.2.2.2.2 gX3_tell_X3_tellRich rfl rfl rfl (by decide +kernel) ⟨Nat.le_of_ble_eq_true rfl, Nat.le_of_ble_eq_true rfl⟩) (As := [.int (iI (k))]) (hn := rfl) (hst := rfl) (rest := []) (hW := Nat.le_of_ble_eq_true rfl) (hdg := dX3_tell_60) (hf := ⟨Nat.le_of_ble_eq_true rfl, Nat.le_of_ble_eq_true rfl⟩) hS (fun v9 uq60 H lc hq9 hP hS => ?_)
      subst hq9
      have hP : va_P D vwCl (wC cI cS ad (u2 I 0 5 (31 * (31 * (I 0 5) + 2) + 1)) R) H := hP
      have hk9 : k_X3_tell I R k = (R 7 (Int.toNat k) + 100, (u2 I 0 5 (31 * (31 * (I 0 5) + 2) + 1)), R) := by rw [k_X3_tell, (if_pos h8), (if_pos h24_0)]
      exact hret _ ((u2 I 0 5 (31 * (31 * (I 0 5) + 2) + 1)), R) _ _ _ _ dX3_tell_63 ⟨by rw [hk9], by rw [hk9], by rw [hk9]; exact (fun q h14 h4 => by first | rfl | exact uR_n h14 | exact uR_n h4 | exact (uR_n h14).trans (uR_n h4) | exact (uR_n h4).trans (uR_n h14))⟩ hP hS
    refine jz_sub (P := R 6 (Int.toNat k) = 2) (fun h24_1 => ?_) (fun h24_1 => ?_)
    · refine jz_look (tgt := 52) C dX3_tell_24 (by decide) (by omega) (by first | (rw [h24_1]; done) | (rw [h24_1]; rfl)) (by decide) ?_
      refine lv_aload_n hx hb dX3_tell_52 rfl (lv_at hl 0 rfl) ?_
      refine lv_iload_n hx hb dX3_tell_53 rfl (lv_at hl 1 rfl) ?_
      refine jw_V C hl.1 (jpreV hE hP 3 0 rfl rfl) (c_X3_tellFine (A := A) (jDC hD) k hT (show 0 ≤ k ∧ k < 6 from (by omega))) (cwV 1 C.2.2.2.2 gX3_tell_X3_tellFine rfl rfl rfl (by decide +kernel) ⟨Nat.le_of_ble_eq_true rfl, Nat.le_of_ble_eq_true rfl⟩) (As := [.int (iI (k))]) (hn := rfl) (hst := rfl) (rest := []) (hW := Nat.le_of_ble_eq_true rfl) (hdg := dX3_tell_54) (hf := ⟨Nat.le_of_ble_eq_true rfl, Nat.le_of_ble_eq_true rfl⟩) hS (fun v9 uq54 H lc hq9 hP hS => ?_)
      subst hq9
      have hP : va_P D vwCl (wC cI cS ad (u2 I 0 5 (31 * (31 * (31 * (31 * (I 0 5) + 3) + 2) + 1) + 1)) R) H := hP
      have hk9 : k_X3_tell I R k = ((R 7 (Int.toNat k) + 100) + R 7 (Int.toNat k), (u2 I 0 5 (31 * (31 * (31 * (31 * (I 0 5) + 3) + 2) + 1) + 1)), R) := by rw [k_X3_tell, (if_pos h8), (if_neg h24_0), (if_pos h24_1)]
      exact hret _ ((u2 I 0 5 (31 * (31 * (31 * (31 * (I 0 5) + 3) + 2) + 1) + 1)), R) _ _ _ _ dX3_tell_57 ⟨by rw [hk9], by rw [hk9], by rw [hk9]; exact (fun q h14 h4 => by first | rfl | exact uR_n h14 | exact uR_n h4 | exact (uR_n h14).trans (uR_n h4) | exact (uR_n h4).trans (uR_n h14))⟩ hP hS
    refine jz_look (tgt := 64) C dX3_tell_24 (by decide) (by omega) (by show Op.lookupswitch.offset [(1, 34), (2, 28)] (40) _ = 40; rw [Op.lookupswitch.offset_cons, if_neg (Ne.symm h24_0), Op.lookupswitch.offset_cons, if_neg (Ne.symm h24_1)]; rfl) (by decide) ?_
    refine lv_aload_n hx hb dX3_tell_64 rfl (lv_at hl 0 rfl) ?_
    refine lv_iload_n hx hb dX3_tell_65 rfl (lv_at hl 1 rfl) ?_
    refine jw_V C hl.1 (jpreV hE hP 3 0 rfl rfl) (c_X3_tellWard (A := A) (jDC hD) k hT (show 0 ≤ k ∧ k < 6 from (by omega))) (cwV 1 C.2.2.2.2 gX3_tell_X3_tellWard rfl rfl rfl (by decide +kernel) ⟨Nat.le_of_ble_eq_true rfl, Nat.le_of_ble_eq_true rfl⟩) (As := [.int (iI (k))]) (hn := rfl) (hst := rfl) (rest := []) (hW := Nat.le_of_ble_eq_true rfl) (hdg := dX3_tell_66) (hf := ⟨Nat.le_of_ble_eq_true rfl, Nat.le_of_ble_eq_true rfl⟩) hS (fun v9 uq66 H lc hq9 hP hS => ?_)
    subst hq9
    have hP : va_P D vwCl (wC cI cS ad (u2 I 0 5 (31 * (I 0 5) + 1)) R) H := hP
    have hk9 : k_X3_tell I R k = (R 7 (Int.toNat k), (u2 I 0 5 (31 * (I 0 5) + 1)), R) := by rw [k_X3_tell, (if_pos h8), (if_neg h24_0), (if_neg h24_1)]
    exact hret _ ((u2 I 0 5 (31 * (I 0 5) + 1)), R) _ _ _ _ dX3_tell_69 ⟨by rw [hk9], by rw [hk9], by rw [hk9]; exact (fun q h14 h4 => by first | rfl | exact uR_n h14 | exact uR_n h4 | exact (uR_n h14).trans (uR_n h4) | exact (uR_n h4).trans (uR_n h14))⟩ hP hS
  · skip
    refine jz_const C dX3_tell_11 ?_
    have hk9 : k_X3_tell I R k = (-1, I, R) := by rw [k_X3_tell, (if_neg h8)]
    exact hret _ (I, R) _ _ _ _ dX3_tell_12 ⟨by rw [hk9], by rw [hk9], by rw [hk9]; exact (fun q h14 h4 => by first | rfl | exact uR_n h14 | exact uR_n h4 | exact (uR_n h14).trans (uR_n h4) | exact (uR_n h4).trans (uR_n h14))⟩ hP hS
def k_X3_woo (I R : Nat → Nat → Int) (k : Int) : Int × (Nat → Nat → Int) × (Nat → Nat → Int) := if 0 ≤ k ∧ k < I 5 14 then (if (R 6 (Int.toNat k)) = 2 then ((60, (u2 I 0 5 (31 * (I 0 5) + 5)), R)) else ((k, (u2 I 0 5 (31 * (I 0 5) + 4)), R))) else ((-1, I, R))
abbrev rm_X3_woo : Room := { frames := 1, cells := 0, slots := 0, locals := 21 }
set_option maxHeartbeats 4000000 in
set_option maxRecDepth 100000 in
theorem c_X3_woo {l : Launch} {D : va_G} {cI cS : ClassId} {ad : Nat → Nat} {I R : Nat → Nat → Int} {A : Nat → Prop} (hD : va_D A (wC cI cS ad I R))  (k : Int)  (hV : VI I R) (hr_k : -2147483648 ≤ k ∧ k < 2147483648): JV l yX3_woo wsX3_woo rm_X3_woo (jB D cI cS (wC cI cS ad I R)) A [.ref (ad 0), .int (iI (k))] (fun v9 (u9 : (Nat → Nat → Int) × (Nat → Nat → Int)) => v9 = some (.int (iI (k_X3_woo I R k).1)) ∧ u9.1 = (k_X3_woo I R k).2.1 ∧ jq u9.2 (k_X3_woo I R k).2.2) (fun u9 H => va_P D vwCl (wC cI cS ad u9.1 u9.2) H) := by
  refine JV.mkI rfl (by decide +kernel) rfl (Nat.le_of_ble_eq_true rfl) ?_
  intro p e st mi ar bl mth cd Q ls C hB hl hret
  obtain ⟨hE, hP⟩ := hB
  have hx := C.1
  have hb := C.2.1
  have hl : lv_has ls 2 [(0, .ref (ad 0)), (1, .int (iI (k)))] := hl
  have hin2 : ∀ w ∈ wsX20, w ∈ wsX3_woo := fun _ h => List.mem_cons_of_mem _ (List.mem_append_right _ h)
  have hin3 : ∀ w ∈ wsX30, w ∈ wsX3_woo := fun _ h => List.mem_cons_of_mem _ (List.mem_append_left _ (List.mem_append_right _ h))
  suffices hgo : ∀ (H : Heap) (lc : List Loc), va_P D vwCl (wC cI cS ad I R) H → va_S A st.heap H lc → W p l e rm_X3_woo st mi ar bl mth cd H lc 0 0 Q (F0 mi 0 ls []) from hgo _ _ hP va_S.rf
  clear hP
  intro H lc hP hS
  have hT := hV.town
  have hW := hT.works
  have hK := hT.wards
  have hSt := hV.stands
  have hset := hT.set
  have hset2 := pow_bd hW hset
  have hcel := hT.cells
  have hlaw := hT.law
  have hrd := hT.reads
  have hP8 := pw8 hW
  refine lv_aload_n hx hb dX3_woo_0 rfl (lv_at hl 0 rfl) ?_
  refine fg_V_present C hin3 hE hP (List.mem_of_getElem? (i := 1) rfl) dX3_woo_1 ?_
  refine lv_iload_n hx hb dX3_woo_4 rfl (lv_at hl 1 rfl) ?_
  refine jc_V C hl.1 (jpreV hE hP 2 5 rfl rfl) (c_X2_hasWard k (show -2147483648 ≤ k ∧ k < 2147483648 from (by omega)) hT.wards) (cwV 1 C.2.2.2.2 gX3_woo_X2_hasWard rfl rfl rfl (by decide +kernel) ⟨Nat.le_of_ble_eq_true rfl, Nat.le_of_ble_eq_true rfl⟩) (As := [.int (iI (k))]) (v := .int (iI (if 0 ≤ k ∧ k < I 5 14 then 1 else 0))) (hn := rfl) (hst := rfl) (rest := []) (hW := Nat.le_of_ble_eq_true rfl) (hdg := dX3_woo_5) (hf := ⟨Nat.le_of_ble_eq_true rfl, Nat.le_of_ble_eq_true rfl⟩) ?_
  refine jz_bool_ne (tgt := 13) C dX3_woo_8 (by decide) (fun h8 => ?_) (fun h8 => ?_)
  · skip
    refine lv_aload_n hx hb dX3_woo_13 rfl (lv_at hl 0 rfl) ?_
    refine fg_V_present C hin3 hE hP (List.mem_of_getElem? (i := 1) rfl) dX3_woo_14 ?_
    refine fg_T_kinds C hin2 hE hP (List.mem_of_getElem? (i := 2) rfl) dX3_woo_17 ?_
    refine lv_iload_n hx hb dX3_woo_20 rfl (lv_at hl 1 rfl) ?_
    have hkd := hT.kind (Int.toNat k) (by omega)
    refine jc_S C hl.1 (jpreS hE hP) (c_X3_read k 6 6 (R 6) (ad 6) rfl (by decide) (show 0 ≤ k ∧ k < 6 from (by omega))) (va_cwS 2 C.2.2.2.2 gX3_woo_X3_read rfl rfl rfl (by decide +kernel) ⟨Nat.le_of_ble_eq_true rfl, Nat.le_of_ble_eq_true rfl⟩) (As := [.ref (ad 6), .int (iI (k))]) (v := .int (iI (R 6 (Int.toNat k)))) (hn := rfl) (hst := rfl) (rest := []) (hW := Nat.le_of_ble_eq_true rfl) (hdg := dX3_woo_21) (hf := ⟨Nat.le_of_ble_eq_true rfl, Nat.le_of_ble_eq_true rfl⟩) ?_
    refine jz_const C dX3_woo_24 ?_
    refine jz_icmp_ne (tgt := 36) C dX3_woo_25 (by decide) (by omega) (fun h25 => ?_) (fun h25 => ?_)
    · skip
      refine lv_aload_n hx hb dX3_woo_36 rfl (lv_at hl 0 rfl) ?_
      refine jz_const C dX3_woo_37 ?_
      refine jw_V C hl.1 (jpreV hE hP 3 0 rfl rfl) (c_X3_leave (A := A) (jDC hD) 4 ) (cwV 1 C.2.2.2.2 gX3_woo_X3_leave rfl rfl rfl (by decide +kernel) ⟨Nat.le_of_ble_eq_true rfl, Nat.le_of_ble_eq_true rfl⟩) (As := [.int (iI (4))]) (hn := rfl) (hst := rfl) (rest := []) (hW := Nat.le_of_ble_eq_true rfl) (hdg := dX3_woo_38) (hf := ⟨Nat.le_of_ble_eq_true rfl, Nat.le_of_ble_eq_true rfl⟩) hS (fun v9 uq38 H lc hq9 hP hS => ?_)
      subst hq9
      have hP : va_P D vwCl (wC cI cS ad (u2 I 0 5 (31 * (I 0 5) + 4)) R) H := hP
      refine lv_iload_n hx hb dX3_woo_41 rfl (lv_at hl 1 rfl) ?_
      have hk9 : k_X3_woo I R k = (k, (u2 I 0 5 (31 * (I 0 5) + 4)), R) := by rw [k_X3_woo, (if_pos h8), (if_neg (h25))]
      exact hret _ ((u2 I 0 5 (31 * (I 0 5) + 4)), R) _ _ _ _ dX3_woo_42 ⟨by rw [hk9], by rw [hk9], by rw [hk9]; exact (fun q h14 h4 => by first | rfl | exact uR_n h14 | exact uR_n h4 | exact (uR_n h14).trans (uR_n h4) | exact (uR_n h4).trans (uR_n h14))⟩ hP hS
    · skip
      refine lv_aload_n hx hb dX3_woo_28 rfl (lv_at hl 0 rfl) ?_
      refine jz_const C dX3_woo_29 ?_
      refine jw_V C hl.1 (jpreV hE hP 3 0 rfl rfl) (c_X3_leave (A := A) (jDC hD) 5 ) (cwV 1 C.2.2.2.2 gX3_woo_X3_leave rfl rfl rfl (by decide +kernel) ⟨Nat.le_of_ble_eq_true rfl, Nat.le_of_ble_eq_true rfl⟩) (As := [.int (iI (5))]) (hn := rfl) (hst := rfl) (rest := []) (hW := Nat.le_of_ble_eq_true rfl) (hdg := dX3_woo_30) (hf := ⟨Nat.le_of_ble_eq_true rfl, Nat.le_of_ble_eq_true rfl⟩) hS (fun v9 uq30 H lc hq9 hP hS => ?_)
      subst hq9
      have hP : va_P D vwCl (wC cI cS ad (u2 I 0 5 (31 * (I 0 5) + 5)) R) H := hP
      refine jz_bipush C dX3_woo_33 (by decide +kernel) ?_
      have hk9 : k_X3_woo I R k = (60, (u2 I 0 5 (31 * (I 0 5) + 5)), R) := by rw [k_X3_woo, (if_pos h8), (if_pos h25)]
      exact hret _ ((u2 I 0 5 (31 * (I 0 5) + 5)), R) _ _ _ _ dX3_woo_35 ⟨by rw [hk9], by rw [hk9], by rw [hk9]; exact (fun q h14 h4 => by first | rfl | exact uR_n h14 | exact uR_n h4 | exact (uR_n h14).trans (uR_n h4) | exact (uR_n h4).trans (uR_n h14))⟩ hP hS
  · skip
    refine jz_const C dX3_woo_11 ?_
    have hk9 : k_X3_woo I R k = (-1, I, R) := by rw [k_X3_woo, (if_neg h8)]
    exact hret _ (I, R) _ _ _ _ dX3_woo_12 ⟨by rw [hk9], by rw [hk9], by rw [hk9]; exact (fun q h14 h4 => by first | rfl | exact uR_n h14 | exact uR_n h4 | exact (uR_n h14).trans (uR_n h4) | exact (uR_n h4).trans (uR_n h14))⟩ hP hS
def k_X3_as (I R : Nat → Nat → Int) (k : Int) (kind : Int) : Int × (Nat → Nat → Int) × (Nat → Nat → Int) := if 0 ≤ k ∧ k < I 5 14 then (if 0 ≤ kind ∧ kind ≤ 2 then (if (R 6 (Int.toNat k)) < kind then ((-10 - 2, (u2 (u2 I 0 6 0) 0 6 2), R)) else ((1, (u2 I 0 6 0), R))) else ((-2, (u2 I 0 6 0), R))) else ((-1, (u2 I 0 6 0), R))
abbrev rm_X3_as : Room := { frames := 1, cells := 0, slots := 0, locals := 21 }
set_option maxHeartbeats 4000000 in
set_option maxRecDepth 100000 in
theorem c_X3_as {l : Launch} {D : va_G} {cI cS : ClassId} {ad : Nat → Nat} {I R : Nat → Nat → Int} {A : Nat → Prop} (hD : va_D A (wC cI cS ad I R))  (k : Int) (kind : Int)  (hV : VI I R) (hr_k : -2147483648 ≤ k ∧ k < 2147483648) (hr_kind : -2147483648 ≤ kind ∧ kind < 2147483648): JV l yX3_as wsX3_as rm_X3_as (jB D cI cS (wC cI cS ad I R)) A [.ref (ad 0), .int (iI (k)), .int (iI (kind))] (fun v9 (u9 : (Nat → Nat → Int) × (Nat → Nat → Int)) => v9 = some (.int (iI (k_X3_as I R k kind).1)) ∧ u9.1 = (k_X3_as I R k kind).2.1 ∧ jq u9.2 (k_X3_as I R k kind).2.2) (fun u9 H => va_P D vwCl (wC cI cS ad u9.1 u9.2) H) := by
  refine JV.mkI rfl (by decide +kernel) rfl (Nat.le_of_ble_eq_true rfl) ?_
  intro p e st mi ar bl mth cd Q ls C hB hl hret
  obtain ⟨hE, hP⟩ := hB
  have hx := C.1
  have hb := C.2.1
  have hl : lv_has ls 3 [(0, .ref (ad 0)), (1, .int (iI (k))), (2, .int (iI (kind)))] := hl
  have hin2 : ∀ w ∈ wsX20, w ∈ wsX3_as := fun _ h => List.mem_cons_of_mem _ (List.mem_append_right _ h)
  have hin3 : ∀ w ∈ wsX30, w ∈ wsX3_as := fun _ h => List.mem_cons_of_mem _ (List.mem_append_left _ (List.mem_append_right _ h))
  suffices hgo : ∀ (H : Heap) (lc : List Loc), va_P D vwCl (wC cI cS ad I R) H → va_S A st.heap H lc → W p l e rm_X3_as st mi ar bl mth cd H lc 0 0 Q (F0 mi 0 ls []) from hgo _ _ hP va_S.rf
  clear hP
  intro H lc hP hS
  have hT := hV.town
  have hW := hT.works
  have hK := hT.wards
  have hSt := hV.stands
  have hset := hT.set
  have hset2 := pow_bd hW hset
  have hcel := hT.cells
  have hlaw := hT.law
  have hrd := hT.reads
  have hP8 := pw8 hW
  refine lv_aload_n hx hb dX3_as_0 rfl (lv_at hl 0 rfl) ?_
  refine jz_const C dX3_as_1 ?_
  refine fp_V_lastFault C hin3 hE hP (jDC hD) hS (List.mem_of_getElem? (i := 1) rfl) dX3_as_2 (fun H lc hP hS => ?_)
  refine lv_aload_n hx hb dX3_as_5 rfl (lv_at hl 0 rfl) ?_
  refine fg_V_present C hin3 hE hP (List.mem_of_getElem? (i := 2) rfl) dX3_as_6 ?_
  refine lv_iload_n hx hb dX3_as_9 rfl (lv_at hl 1 rfl) ?_
  refine jc_V C hl.1 (jpreV hE hP 2 5 rfl rfl) (c_X2_hasWard k (show -2147483648 ≤ k ∧ k < 2147483648 from (by omega)) hT.wards) (cwV 1 C.2.2.2.2 gX3_as_X2_hasWard rfl rfl rfl (by decide +kernel) ⟨Nat.le_of_ble_eq_true rfl, Nat.le_of_ble_eq_true rfl⟩) (As := [.int (iI (k))]) (v := .int (iI (if 0 ≤ k ∧ k < I 5 14 then 1 else 0))) (hn := rfl) (hst := rfl) (rest := []) (hW := Nat.le_of_ble_eq_true rfl) (hdg := dX3_as_10) (hf := ⟨Nat.le_of_ble_eq_true rfl, Nat.le_of_ble_eq_true rfl⟩) ?_
  refine jz_bool_ne (tgt := 18) C dX3_as_13 (by decide) (fun h13 => ?_) (fun h13 => ?_)
  · skip
    refine lv_iload_n hx hb dX3_as_18 rfl (lv_at hl 2 rfl) ?_
    refine jz_const C dX3_as_19 ?_
    refine jc_S C hl.1 (jpreS hE hP) (c_X3_isUpTo kind 2 (show -2147483648 ≤ kind ∧ kind < 2147483648 from (by omega)) (show -2147483648 ≤ 2 ∧ 2 < 2147483648 from (by omega))) (va_cwS 2 C.2.2.2.2 gX3_as_X3_isUpTo rfl rfl rfl (by decide +kernel) ⟨Nat.le_of_ble_eq_true rfl, Nat.le_of_ble_eq_true rfl⟩) (As := [.int (iI (kind)), .int (iI (2))]) (v := .int (iI (if 0 ≤ kind ∧ kind ≤ 2 then 1 else 0))) (hn := rfl) (hst := rfl) (rest := []) (hW := Nat.le_of_ble_eq_true rfl) (hdg := dX3_as_20) (hf := ⟨Nat.le_of_ble_eq_true rfl, Nat.le_of_ble_eq_true rfl⟩) ?_
    refine jz_bool_ne (tgt := 29) C dX3_as_23 (by decide) (fun h23 => ?_) (fun h23 => ?_)
    · skip
      refine lv_aload_n hx hb dX3_as_29 rfl (lv_at hl 0 rfl) ?_
      refine fg_V_present C hin3 hE hP (List.mem_of_getElem? (i := 2) rfl) dX3_as_30 ?_
      refine fg_T_kinds C hin2 hE hP (List.mem_of_getElem? (i := 3) rfl) dX3_as_33 ?_
      refine lv_iload_n hx hb dX3_as_36 rfl (lv_at hl 1 rfl) ?_
      have hkd := hT.kind (Int.toNat k) (by omega)
      refine jc_S C hl.1 (jpreS hE hP) (c_X3_read k 6 6 (R 6) (ad 6) rfl (by decide) (show 0 ≤ k ∧ k < 6 from (by omega))) (va_cwS 2 C.2.2.2.2 gX3_as_X3_read rfl rfl rfl (by decide +kernel) ⟨Nat.le_of_ble_eq_true rfl, Nat.le_of_ble_eq_true rfl⟩) (As := [.ref (ad 6), .int (iI (k))]) (v := .int (iI (R 6 (Int.toNat k)))) (hn := rfl) (hst := rfl) (rest := []) (hW := Nat.le_of_ble_eq_true rfl) (hdg := dX3_as_37) (hf := ⟨Nat.le_of_ble_eq_true rfl, Nat.le_of_ble_eq_true rfl⟩) ?_
      refine lv_iload_n hx hb dX3_as_40 rfl (lv_at hl 2 rfl) ?_
      refine jz_icmp_lt (tgt := 48) C dX3_as_41 (by decide) (by omega) (fun h41 => ?_) (fun h41 => ?_)
      · skip
        refine lv_aload_n hx hb dX3_as_48 rfl (lv_at hl 0 rfl) ?_
        refine jz_const C dX3_as_49 ?_
        refine jw_V C hl.1 (jpreV hE hP 3 0 rfl rfl) (c_X3_fail (A := A) (jDC hD) 2 ) (cwV 1 C.2.2.2.2 gX3_as_X3_fail rfl rfl rfl (by decide +kernel) ⟨Nat.le_of_ble_eq_true rfl, Nat.le_of_ble_eq_true rfl⟩) (As := [.int (iI (2))]) (hn := rfl) (hst := rfl) (rest := []) (hW := Nat.le_of_ble_eq_true rfl) (hdg := dX3_as_50) (hf := ⟨Nat.le_of_ble_eq_true rfl, Nat.le_of_ble_eq_true rfl⟩) hS (fun v9 uq50 H lc hq9 hP hS => ?_)
        subst hq9
        have hP : va_P D vwCl (wC cI cS ad (u2 (u2 I 0 6 0) 0 6 2) R) H := hP
        have hk9 : k_X3_as I R k kind = (-10 - 2, (u2 (u2 I 0 6 0) 0 6 2), R) := by rw [k_X3_as, (if_pos h13), (if_pos h23), (if_pos h41)]
        exact hret _ ((u2 (u2 I 0 6 0) 0 6 2), R) _ _ _ _ dX3_as_53 ⟨by rw [hk9], by rw [hk9], by rw [hk9]; exact (fun q h14 h4 => by first | rfl | exact uR_n h14 | exact uR_n h4 | exact (uR_n h14).trans (uR_n h4) | exact (uR_n h4).trans (uR_n h14))⟩ hP hS
      · skip
        refine jz_const C dX3_as_44 ?_
        refine lv_goto (tgt := 53) hx hb dX3_as_45 (by decide) ?_
        have hk9 : k_X3_as I R k kind = (1, (u2 I 0 6 0), R) := by rw [k_X3_as, (if_pos h13), (if_pos h23), (if_neg (Int.not_lt.mpr h41))]
        exact hret _ ((u2 I 0 6 0), R) _ _ _ _ dX3_as_53 ⟨by rw [hk9], by rw [hk9], by rw [hk9]; exact (fun q h14 h4 => by first | rfl | exact uR_n h14 | exact uR_n h4 | exact (uR_n h14).trans (uR_n h4) | exact (uR_n h4).trans (uR_n h14))⟩ hP hS
    · skip
      refine jz_bipush C dX3_as_26 (by decide +kernel) ?_
      have hk9 : k_X3_as I R k kind = (-2, (u2 I 0 6 0), R) := by rw [k_X3_as, (if_pos h13), (if_neg h23)]
      exact hret _ ((u2 I 0 6 0), R) _ _ _ _ dX3_as_28 ⟨by rw [hk9], by rw [hk9], by rw [hk9]; exact (fun q h14 h4 => by first | rfl | exact uR_n h14 | exact uR_n h4 | exact (uR_n h14).trans (uR_n h4) | exact (uR_n h4).trans (uR_n h14))⟩ hP hS
  · skip
    refine jz_const C dX3_as_16 ?_
    have hk9 : k_X3_as I R k kind = (-1, (u2 I 0 6 0), R) := by rw [k_X3_as, (if_neg h13)]
    exact hret _ ((u2 I 0 6 0), R) _ _ _ _ dX3_as_17 ⟨by rw [hk9], by rw [hk9], by rw [hk9]; exact (fun q h14 h4 => by first | rfl | exact uR_n h14 | exact uR_n h4 | exact (uR_n h14).trans (uR_n h4) | exact (uR_n h4).trans (uR_n h14))⟩ hP hS
def k_X3_trace (I R : Nat → Nat → Int)  : Int := I 0 5
abbrev rm_X3_trace : Room := { frames := 0, cells := 0, slots := 0, locals := 0 }
set_option maxHeartbeats 4000000 in
set_option maxRecDepth 100000 in
theorem c_X3_trace {l : Launch} {D : va_G} {cI cS : ClassId} {ad : Nat → Nat} {I R : Nat → Nat → Int}    (hV : VI I R): JS l yX3_trace wsX3_trace rm_X3_trace (jB D cI cS (wC cI cS ad I R)) [.ref (ad 0)] (.int (iI (k_X3_trace I R))) := by
  refine JS.mkI rfl (by decide +kernel) rfl (Nat.le_of_ble_eq_true rfl) ?_
  intro p e st mi ar bl mth cd Q ls C hB hl hret
  obtain ⟨hE, hP⟩ := hB
  have hx := C.1
  have hb := C.2.1
  have hl : lv_has ls 1 [(0, .ref (ad 0))] := hl
  have hin3 : ∀ w ∈ wsX30, w ∈ wsX3_trace := fun _ h => List.mem_cons_of_mem _ (List.mem_append_right _ h)
  have hT := hV.town
  have hW := hT.works
  have hK := hT.wards
  have hSt := hV.stands
  have hset := hT.set
  have hset2 := pow_bd hW hset
  have hcel := hT.cells
  have hlaw := hT.law
  have hrd := hT.reads
  have hP8 := pw8 hW
  refine lv_aload_n hx hb dX3_trace_0 rfl (lv_at hl 0 rfl) ?_
  refine fg_V_traced C hin3 hE hP (v := I 0 5) (List.mem_of_getElem? (i := 1) rfl) dX3_trace_1 rfl ?_
  exact jz_ret (show (k_X3_trace I R : Int) = I 0 5 from by rw [k_X3_trace]) (hret _ _ dX3_trace_4)
def k_X3_fault (I R : Nat → Nat → Int)  : Int := I 0 6
abbrev rm_X3_fault : Room := { frames := 0, cells := 0, slots := 0, locals := 0 }
set_option maxHeartbeats 4000000 in
set_option maxRecDepth 100000 in
theorem c_X3_fault {l : Launch} {D : va_G} {cI cS : ClassId} {ad : Nat → Nat} {I R : Nat → Nat → Int}    (hV : VI I R): JS l yX3_fault wsX3_fault rm_X3_fault (jB D cI cS (wC cI cS ad I R)) [.ref (ad 0)] (.int (iI (k_X3_fault I R))) := by
  refine JS.mkI rfl (by decide +kernel) rfl (Nat.le_of_ble_eq_true rfl) ?_
  intro p e st mi ar bl mth cd Q ls C hB hl hret
  obtain ⟨hE, hP⟩ := hB
  have hx := C.1
  have hb := C.2.1
  have hl : lv_has ls 1 [(0, .ref (ad 0))] := hl
  have hin3 : ∀ w ∈ wsX30, w ∈ wsX3_fault := fun _ h => List.mem_cons_of_mem _ (List.mem_append_right _ h)
  have hT := hV.town
  have hW := hT.works
  have hK := hT.wards
  have hSt := hV.stands
  have hset := hT.set
  have hset2 := pow_bd hW hset
  have hcel := hT.cells
  have hlaw := hT.law
  have hrd := hT.reads
  have hP8 := pw8 hW
  refine lv_aload_n hx hb dX3_fault_0 rfl (lv_at hl 0 rfl) ?_
  refine fg_V_lastFault C hin3 hE hP (v := I 0 6) (List.mem_of_getElem? (i := 1) rfl) dX3_fault_1 rfl ?_
  exact jz_ret (show (k_X3_fault I R : Int) = I 0 6 from by rw [k_X3_fault]) (hret _ _ dX3_fault_4)
def k_X3_many (I R : Nat → Nat → Int) (what : Int) : Int := if what = 0 then (I 5 12) else (if what = 1 then (I 5 13) else (if what = 2 then (I 5 14) else (if what = 3 then (I 5 15) else (if what = 4 then (I 5 17) else (-2)))))
abbrev rm_X3_many : Room := { frames := 0, cells := 0, slots := 0, locals := 0 }
set_option maxHeartbeats 4000000 in
set_option maxRecDepth 100000 in
theorem c_X3_many {l : Launch} {D : va_G} {cI cS : ClassId} {ad : Nat → Nat} {I R : Nat → Nat → Int}  (what : Int)  (hV : VI I R) (hr_what : -2147483648 ≤ what ∧ what < 2147483648): JS l yX3_many wsX3_many rm_X3_many (jB D cI cS (wC cI cS ad I R)) [.ref (ad 0), .int (iI (what))] (.int (iI (k_X3_many I R what))) := by
  refine JS.mkI rfl (by decide +kernel) rfl (Nat.le_of_ble_eq_true rfl) ?_
  intro p e st mi ar bl mth cd Q ls C hB hl hret
  obtain ⟨hE, hP⟩ := hB
  have hx := C.1
  have hb := C.2.1
  have hl : lv_has ls 2 [(0, .ref (ad 0)), (1, .int (iI (what)))] := hl
  have hin2 : ∀ w ∈ wsX20, w ∈ wsX3_many := fun _ h => List.mem_cons_of_mem _ (List.mem_append_right _ h)
  have hin3 : ∀ w ∈ wsX30, w ∈ wsX3_many := fun _ h => List.mem_cons_of_mem _ (List.mem_append_left _ (List.mem_append_right _ h))
  have hT := hV.town
  have hW := hT.works
  have hK := hT.wards
  have hSt := hV.stands
  have hset := hT.set
  have hset2 := pow_bd hW hset
  have hcel := hT.cells
  have hlaw := hT.law
  have hrd := hT.reads
  have hP8 := pw8 hW
  refine lv_iload_n hx hb dX3_many_0 rfl (lv_at hl 1 rfl) ?_
  refine jz_sub (P := what = 0) (fun h1_0 => ?_) (fun h1_0 => ?_)
  · refine jz_tabIn (tgt := 36) C 0 dX3_many_1 (by omega) rfl (by decide) ?_
    refine lv_aload_n hx hb dX3_many_36 rfl (lv_at hl 0 rfl) ?_
    refine fg_V_present C hin3 hE hP (List.mem_of_getElem? (i := 1) rfl) dX3_many_37 ?_
    refine fg_T_cells C hin2 hE hP (v := I 5 12) (List.mem_of_getElem? (i := 2) rfl) dX3_many_40 rfl ?_
    exact jz_ret (show (k_X3_many I R what : Int) = I 5 12 from by rw [k_X3_many, (if_pos h1_0)]) (hret _ _ dX3_many_43)
  refine jz_sub (P := what = 1) (fun h1_1 => ?_) (fun h1_1 => ?_)
  · refine jz_tabIn (tgt := 44) C 1 dX3_many_1 (by omega) rfl (by decide) ?_
    refine lv_aload_n hx hb dX3_many_44 rfl (lv_at hl 0 rfl) ?_
    refine fg_V_present C hin3 hE hP (List.mem_of_getElem? (i := 1) rfl) dX3_many_45 ?_
    refine fg_T_works C hin2 hE hP (v := I 5 13) (List.mem_of_getElem? (i := 3) rfl) dX3_many_48 rfl ?_
    exact jz_ret (show (k_X3_many I R what : Int) = I 5 13 from by rw [k_X3_many, (if_neg h1_0), (if_pos h1_1)]) (hret _ _ dX3_many_51)
  refine jz_sub (P := what = 2) (fun h1_2 => ?_) (fun h1_2 => ?_)
  · refine jz_tabIn (tgt := 52) C 2 dX3_many_1 (by omega) rfl (by decide) ?_
    refine lv_aload_n hx hb dX3_many_52 rfl (lv_at hl 0 rfl) ?_
    refine fg_V_present C hin3 hE hP (List.mem_of_getElem? (i := 1) rfl) dX3_many_53 ?_
    refine fg_T_wards C hin2 hE hP (v := I 5 14) (List.mem_of_getElem? (i := 4) rfl) dX3_many_56 rfl ?_
    exact jz_ret (show (k_X3_many I R what : Int) = I 5 14 from by rw [k_X3_many, (if_neg h1_0), (if_neg h1_1), (if_pos h1_2)]) (hret _ _ dX3_many_59)
  refine jz_sub (P := what = 3) (fun h1_3 => ?_) (fun h1_3 => ?_)
  · refine jz_tabIn (tgt := 60) C 3 dX3_many_1 (by omega) rfl (by decide) ?_
    refine lv_aload_n hx hb dX3_many_60 rfl (lv_at hl 0 rfl) ?_
    refine fg_V_present C hin3 hE hP (List.mem_of_getElem? (i := 1) rfl) dX3_many_61 ?_
    refine fg_T_lawNow C hin2 hE hP (v := I 5 15) (List.mem_of_getElem? (i := 5) rfl) dX3_many_64 rfl ?_
    exact jz_ret (show (k_X3_many I R what : Int) = I 5 15 from by rw [k_X3_many, (if_neg h1_0), (if_neg h1_1), (if_neg h1_2), (if_pos h1_3)]) (hret _ _ dX3_many_67)
  refine jz_sub (P := what = 4) (fun h1_4 => ?_) (fun h1_4 => ?_)
  · refine jz_tabIn (tgt := 68) C 4 dX3_many_1 (by omega) rfl (by decide) ?_
    refine lv_aload_n hx hb dX3_many_68 rfl (lv_at hl 0 rfl) ?_
    refine fg_V_present C hin3 hE hP (List.mem_of_getElem? (i := 1) rfl) dX3_many_69 ?_
    refine fg_T_readings C hin2 hE hP (v := I 5 17) (List.mem_of_getElem? (i := 6) rfl) dX3_many_72 rfl ?_
    exact jz_ret (show (k_X3_many I R what : Int) = I 5 17 from by rw [k_X3_many, (if_neg h1_0), (if_neg h1_1), (if_neg h1_2), (if_neg h1_3), (if_pos h1_4)]) (hret _ _ dX3_many_75)
  refine jz_tabOut (tgt := 76) C dX3_many_1 (by omega) (by decide) ?_
  refine jz_bipush C dX3_many_76 (by decide +kernel) ?_
  exact jz_ret (show (k_X3_many I R what : Int) = -2 from by rw [k_X3_many, (if_neg h1_0), (if_neg h1_1), (if_neg h1_2), (if_neg h1_3), (if_neg h1_4)]) (hret _ _ dX3_many_78)
