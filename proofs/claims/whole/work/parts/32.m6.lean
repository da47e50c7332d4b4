/-- the code at a place of a sheet -/
def cdx (p n fr : Int) (T : Nat → Int) : Int := if p < n then T (Int.toNat (fr + p)) else -9
theorem cdx_lt {p n fr : Int} {T : Nat → Int} (h : ¬ cdx p n fr T = -9) : p < n := by
  unfold cdx at h
  split at h
  · assumption
  · exact absurd rfl h
def w9 (z : Int) : Int := if z < -2147483648 then z + 4294967296 else z
theorem iI_w9 (z : Int) : iI (w9 z) = iI z := by
  unfold w9
  split
  · rw [← iI_add, show iI 4294967296 = 0 from by decide +kernel, Int32.add_zero]
  · rfl
/-- the reading of a text: where it is, what there is -/
def BM (F : Nat → Int) (R : Nat → Nat → Int) (n fr : Int) : Prop := (0 ≤ F 12 ∧ F 12 ≤ n) ∧ (0 ≤ fr ∧ 0 ≤ n ∧ fr + n ≤ 240) ∧ (0 ≤ F 15 ∧ F 15 ≤ 4) ∧ (0 ≤ F 16 ∧ F 16 ≤ 6) ∧ (2 ≤ F 14 ∧ F 14 ≤ 6) ∧ (∀ j, j < 240 → -2147483648 ≤ R 29 j ∧ R 29 j < 2147483648)
theorem cdx_rng {p n fr : Int} {T : Nat → Int} (hp : 0 ≤ p) (hf : 0 ≤ fr ∧ 0 ≤ n ∧ fr + n ≤ 240) (h : ∀ j, j < 240 → -2147483648 ≤ T j ∧ T j < 2147483648) : -2147483648 ≤ cdx p n fr T ∧ cdx p n fr T < 2147483648 := by
  unfold cdx
  split
  · exact h _ (by omega)
  · omega
abbrev rm_X4_codeAt : Room := { frames := 0, cells := 0, slots := 0, locals := 0 }
set_option maxHeartbeats 4000000 in
set_option maxRecDepth 100000 in
theorem c_X4_codeAt {l : Launch} {D : va_G} {cI cS : ClassId} {ad : Nat → Nat} {F : Nat → Int} {R : Nat → Nat → Int}  (fr : Int) (n : Int)  (hp : 0 ≤ (F 12)) (hfr : 0 ≤ fr ∧ 0 ≤ n ∧ fr + n ≤ 240) (hT : ∀ j, j < 240 → -2147483648 ≤ (R 29) j ∧ (R 29) j < 2147483648) (hp2 : (F 12) ≤ 240): JS l yX4_codeAt wsX4_codeAt rm_X4_codeAt (jB D cI cS (wM cI ad F R)) [.ref (ad 0), .int (iI (fr)), .int (iI (n))] (.int (iI (cdx (F 12) n fr (R 29)))) := by
  refine JS.mkI rfl (by decide +kernel) rfl (Nat.le_of_ble_eq_true rfl) ?_
  intro p e st mi ar bl mth cd Q ls C hB hl hret
  obtain ⟨hE, hP⟩ := hB
  have hx := C.1
  have hb := C.2.1
  have hl : lv_has ls 3 [(0, .ref (ad 0)), (1, .int (iI (fr))), (2, .int (iI (n)))] := hl
  have hin4 : ∀ w ∈ wsX40, w ∈ wsX4_codeAt := fun _ h => List.mem_cons_of_mem _ (List.mem_append_right _ h)
  refine lv_aload_n hx hb dX4_codeAt_0 rfl (lv_at hl 0 rfl) ?_
  refine fg_M_readAt C hin4 hE hP (v := F 12) (List.mem_of_getElem? (i := 1) rfl) dX4_codeAt_1 rfl ?_
  refine lv_iload_n hx hb dX4_codeAt_4 rfl (lv_at hl 2 rfl) ?_
  refine jz_icmp_ge (tgt := 22) C dX4_codeAt_5 (by decide) (by omega) (fun h5 => ?_) (fun h5 => ?_)
  · skip
    refine jz_bipush C dX4_codeAt_22 (by decide +kernel) ?_
    exact jz_ret (show (cdx (F 12) n fr (R 29) : Int) = -9 from by unfold cdx; first | rw [if_pos h5] | rw [if_neg (Int.not_lt.mpr h5)]) (hret _ _ dX4_codeAt_24)
  · skip
    refine lv_aload_n hx hb dX4_codeAt_8 rfl (lv_at hl 0 rfl) ?_
    refine fg_M_sheet C hin4 hE hP (List.mem_of_getElem? (i := 2) rfl) dX4_codeAt_9 ?_
    refine lv_iload_n hx hb dX4_codeAt_12 rfl (lv_at hl 1 rfl) ?_
    refine lv_aload_n hx hb dX4_codeAt_13 rfl (lv_at hl 0 rfl) ?_
    refine fg_M_readAt C hin4 hE hP (v := F 12) (List.mem_of_getElem? (i := 1) rfl) dX4_codeAt_14 rfl ?_
    refine jz_iadd C dX4_codeAt_17 ?_
    refine fl_M_sheet C hE hP (v := R 29 (Int.toNat (fr + (F 12)))) dX4_codeAt_18 (by omega) rfl ?_
    refine lv_goto (tgt := 24) hx hb dX4_codeAt_19 (by decide) ?_
    exact jz_ret (show (cdx (F 12) n fr (R 29) : Int) = R 29 (Int.toNat (fr + (F 12))) from by unfold cdx; first | rw [if_pos h5] | rw [if_neg (Int.not_lt.mpr h5)]) (hret _ _ dX4_codeAt_24)
abbrev rm_X4_figureT : Room := { frames := 1, cells := 0, slots := 0, locals := 25 }
set_option maxHeartbeats 4000000 in
set_option maxRecDepth 100000 in
theorem c_X4_figureT {l : Launch} {D : va_G} {cI cS : ClassId} {ad : Nat → Nat} {F : Nat → Int} {R : Nat → Nat → Int} {A : Nat → Prop} (hD : va_D A (wM cI ad F R))  (fr : Int) (n : Int) (lo : Int) (hi : Int)  (hp : 0 ≤ (F 12)) (hfr : 0 ≤ fr ∧ 0 ≤ n ∧ fr + n ≤ 240) (hT : ∀ j, j < 240 → -2147483648 ≤ (R 29) j ∧ (R 29) j < 2147483648) (hp2 : (F 12) ≤ 240) (hlh : (0 ≤ lo ∧ lo < 10) ∧ 0 ≤ hi ∧ hi < 10) (hc : 48 + lo ≤ cdx (F 12) n fr (R 29) ∧ cdx (F 12) n fr (R 29) ≤ 48 + hi): JV l yX4_figure wsX4_figure rm_X4_figureT (jB D cI cS (wM cI ad F R)) A [.ref (ad 0), .int (iI (fr)), .int (iI (n)), .int (iI (lo)), .int (iI (hi))] (fun v9 (_ : Unit) => v9 = some (.int (iI (cdx (F 12) n fr (R 29) - 48)))) (fun _ H => va_P D vwCl (wM cI ad (u1 F 12 ((F 12) + 1)) R) H) := by
  refine JV.mkI rfl (by decide +kernel) rfl (Nat.le_of_ble_eq_true rfl) ?_
  intro p e st mi ar bl mth cd Q ls C hB hl hret
  obtain ⟨hE, hP⟩ := hB
  have hx := C.1
  have hb := C.2.1
  have hl : lv_has ls 7 [(0, .ref (ad 0)), (1, .int (iI (fr))), (2, .int (iI (n))), (3, .int (iI (lo))), (4, .int (iI (hi)))] := hl
  have hin4 : ∀ w ∈ wsX40, w ∈ wsX4_figure := fun _ h => List.mem_cons_of_mem _ (List.mem_append_right _ h)
  suffices hgo : ∀ (H : Heap) (lc : List Loc), va_P D vwCl (wM cI ad F R) H → va_S A st.heap H lc → W p l e rm_X4_figureT st mi ar bl mth cd H lc 0 0 Q (F0 mi 0 ls []) from hgo _ _ hP va_S.rf
  clear hP
  intro H lc hP hS
  have hcr := cdx_rng (n := n) (fr := fr) hp hfr hT
  refine lv_aload_n hx hb dX4_figure_0 rfl (lv_at hl 0 rfl) ?_
  refine lv_iload_n hx hb dX4_figure_1 rfl (lv_at hl 1 rfl) ?_
  refine lv_iload_n hx hb dX4_figure_2 rfl (lv_at hl 2 rfl) ?_
  refine jc_V C hl.1 (jpreV hE hP 4 0 rfl rfl) (c_X4_codeAt fr n (show 0 ≤ (F 12) from (by omega)) hfr hT (show (F 12) ≤ 240 from (by omega))) (cwV 2 C.2.2.2.2 gX4_figure_X4_codeAt rfl rfl rfl (by decide +kernel) ⟨Nat.le_of_ble_eq_true rfl, Nat.le_of_ble_eq_true rfl⟩) (As := [.int (iI (fr)), .int (iI (n))]) (v := .int (iI (cdx (F 12) n fr (R 29)))) (hn := rfl) (hst := rfl) (rest := []) (hW := Nat.le_of_ble_eq_true rfl) (hdg := dX4_figure_3) (hf := ⟨Nat.le_of_ble_eq_true rfl, Nat.le_of_ble_eq_true rfl⟩) ?_
  refine jz_bipush C dX4_figure_6 (by decide +kernel) ?_
  refine jz_isub C dX4_figure_8 ?_
  refine lv_istore (lv' := [(5, .int (iI ((cdx (F 12) n fr (R 29)) - 48))), (0, .ref (ad 0)), (1, .int (iI (fr))), (2, .int (iI (n))), (3, .int (iI (lo))), (4, .int (iI (hi)))]) hx hb dX4_figure_9 hl (by decide) rfl (fun ls hl => ?_)
  have hl : lv_has ls 7 [(5, .int (iI (w9 (cdx (F 12) n fr (R 29) - 48)))), (0, .ref (ad 0)), (1, .int (iI (fr))), (2, .int (iI (n))), (3, .int (iI (lo))), (4, .int (iI (hi)))] := by rw [iI_w9]; exact hl
  have hw9 : w9 (cdx (F 12) n fr (R 29) - 48) = cdx (F 12) n fr (R 29) - 48 ∨ w9 (cdx (F 12) n fr (R 29) - 48) = cdx (F 12) n fr (R 29) - 48 + 4294967296 ∧ cdx (F 12) n fr (R 29) < -2147483600 := by unfold w9; split <;> omega
  have hw8 : -2147483648 ≤ w9 (cdx (F 12) n fr (R 29) - 48) ∧ w9 (cdx (F 12) n fr (R 29) - 48) < 2147483648 := by unfold w9; split <;> omega
  refine lv_iload hx hb dX4_figure_11 (lv_at hl 0 rfl) ?_
  refine jz_i2l C dX4_figure_13 (by omega) ?_
  refine lv_iload_n hx hb dX4_figure_14 rfl (lv_at hl 4 rfl) ?_
  refine jz_i2l C dX4_figure_15 (by omega) ?_
  refine lv_iload hx hb dX4_figure_16 (lv_at hl 5 rfl) ?_
  refine jz_i2l C dX4_figure_18 (by omega) ?_
  refine jc_S C hl.1 (jpreS hE hP) (c_X4_in (w9 (cdx (F 12) n fr (R 29) - 48)) lo hi (show -9223372036854775808 ≤ (w9 (cdx (F 12) n fr (R 29) - 48)) ∧ (w9 (cdx (F 12) n fr (R 29) - 48)) < 9223372036854775808 from (by omega)) (show -9223372036854775808 ≤ lo ∧ lo < 9223372036854775808 from (by omega)) (show -9223372036854775808 ≤ hi ∧ hi < 9223372036854775808 from (by omega))) (va_cwS 3 C.2.2.2.2 gX4_figure_X4_in rfl rfl rfl (by decide +kernel) ⟨Nat.le_of_ble_eq_true rfl, Nat.le_of_ble_eq_true rfl⟩) (As := [.long (lI (w9 (cdx (F 12) n fr (R 29) - 48))), .long (lI (lo)), .long (lI (hi))]) (v := .int (iI (if lo ≤ (w9 (cdx (F 12) n fr (R 29) - 48)) ∧ (w9 (cdx (F 12) n fr (R 29) - 48)) ≤ hi then 1 else 0))) (hn := rfl) (hst := rfl) (rest := []) (hW := Nat.le_of_ble_eq_true rfl) (hdg := dX4_figure_19) (hf := ⟨Nat.le_of_ble_eq_true rfl, Nat.le_of_ble_eq_true rfl⟩) ?_
  refine lv_istore (lv' := [(6, .int (iI (if lo ≤ (w9 (cdx (F 12) n fr (R 29) - 48)) ∧ (w9 (cdx (F 12) n fr (R 29) - 48)) ≤ hi then 1 else 0))), (5, .int (iI (w9 (cdx (F 12) n fr (R 29) - 48)))), (0, .ref (ad 0)), (1, .int (iI (fr))), (2, .int (iI (n))), (3, .int (iI (lo))), (4, .int (iI (hi)))]) hx hb dX4_figure_22 hl (by decide) rfl (fun ls hl => ?_)
  refine lv_aload_n hx hb dX4_figure_24 rfl (lv_at hl 2 rfl) ?_
  refine lv_dup hx hb dX4_figure_25 rfl ?_
  refine fg_M_readAt C hin4 hE hP (v := F 12) (List.mem_of_getElem? (i := 1) rfl) dX4_figure_26 rfl ?_
  refine lv_iload hx hb dX4_figure_29 (lv_at hl 0 rfl) ?_
  refine jz_bool_eq (tgt := 38) C dX4_figure_31 (by decide) (fun h31 => ?_) (fun h31 => ?_)
  · exfalso; omega
  · skip
    refine jz_const C dX4_figure_34 ?_
    refine lv_goto (tgt := 39) hx hb dX4_figure_35 (by decide) ?_
    refine jz_iadd C dX4_figure_39 ?_
    refine fp_M_readAt C hin4 hE hP (jDM hD) hS (List.mem_of_getElem? (i := 1) rfl) dX4_figure_40 (fun H lc hP hS => ?_)
    refine lv_iload hx hb dX4_figure_43 (lv_at hl 0 rfl) ?_
    refine jz_bool_eq (tgt := 53) C dX4_figure_45 (by decide) (fun h45 => ?_) (fun h45 => ?_)
    · exfalso; omega
    · skip
      refine lv_iload hx hb dX4_figure_48 (lv_at hl 1 rfl) ?_
      have hw7 : w9 (cdx (F 12) n fr (R 29) - 48) = cdx (F 12) n fr (R 29) - 48 := by omega
      rw [hw7]
      refine lv_goto (tgt := 55) hx hb dX4_figure_50 (by decide) ?_
      exact hret _ () _ _ _ _ dX4_figure_55 rfl hP hS
abbrev rm_X4_figureF : Room := { frames := 1, cells := 0, slots := 0, locals := 25 }
set_option maxHeartbeats 4000000 in
set_option maxRecDepth 100000 in
theorem c_X4_figureF {l : Launch} {D : va_G} {cI cS : ClassId} {ad : Nat → Nat} {F : Nat → Int} {R : Nat → Nat → Int} {A : Nat → Prop} (hD : va_D A (wM cI ad F R))  (fr : Int) (n : Int) (lo : Int) (hi : Int)  (hp : 0 ≤ (F 12)) (hfr : 0 ≤ fr ∧ 0 ≤ n ∧ fr + n ≤ 240) (hT : ∀ j, j < 240 → -2147483648 ≤ (R 29) j ∧ (R 29) j < 2147483648) (hp2 : (F 12) ≤ 240) (hlh : (0 ≤ lo ∧ lo < 10) ∧ 0 ≤ hi ∧ hi < 10) (hc : ¬ (48 + lo ≤ cdx (F 12) n fr (R 29) ∧ cdx (F 12) n fr (R 29) ≤ 48 + hi)): JV l yX4_figure wsX4_figure rm_X4_figureF (jB D cI cS (wM cI ad F R)) A [.ref (ad 0), .int (iI (fr)), .int (iI (n)), .int (iI (lo)), .int (iI (hi))] (fun v9 (_ : Unit) => v9 = some (.int (iI (-9)))) (fun _ H => va_P D vwCl (wM cI ad (u1 F 12 ((F 12) + 0)) R) H) := by
  refine JV.mkI rfl (by decide +kernel) rfl (Nat.le_of_ble_eq_true rfl) ?_
  intro p e st mi ar bl mth cd Q ls C hB hl hret
  obtain ⟨hE, hP⟩ := hB
  have hx := C.1
  have hb := C.2.1
  have hl : lv_has ls 7 [(0, .ref (ad 0)), (1, .int (iI (fr))), (2, .int (iI (n))), (3, .int (iI (lo))), (4, .int (iI (hi)))] := hl
  have hin4 : ∀ w ∈ wsX40, w ∈ wsX4_figure := fun _ h => List.mem_cons_of_mem _ (List.mem_append_right _ h)
  suffices hgo : ∀ (H : Heap) (lc : List Loc), va_P D vwCl (wM cI ad F R) H → va_S A st.heap H lc → W p l e rm_X4_figureF st mi ar bl mth cd H lc 0 0 Q (F0 mi 0 ls []) from hgo _ _ hP va_S.rf
  clear hP
  intro H lc hP hS
  have hcr := cdx_rng (n := n) (fr := fr) hp hfr hT
  refine lv_aload_n hx hb dX4_figure_0 rfl (lv_at hl 0 rfl) ?_
  refine lv_iload_n hx hb dX4_figure_1 rfl (lv_at hl 1 rfl) ?_
  refine lv_iload_n hx hb dX4_figure_2 rfl (lv_at hl 2 rfl) ?_
  refine jc_V C hl.1 (jpreV hE hP 4 0 rfl rfl) (c_X4_codeAt fr n (show 0 ≤ (F 12) from (by omega)) hfr hT (show (F 12) ≤ 240 from (by omega))) (cwV 2 C.2.2.2.2 gX4_figure_X4_codeAt rfl rfl rfl (by decide +kernel) ⟨Nat.le_of_ble_eq_true rfl, Nat.le_of_ble_eq_true rfl⟩) (As := [.int (iI (fr)), .int (iI (n))]) (v := .int (iI (cdx (F 12) n fr (R 29)))) (hn := rfl) (hst := rfl) (rest := []) (hW := Nat.le_of_ble_eq_true rfl) (hdg := dX4_figure_3) (hf := ⟨Nat.le_of_ble_eq_true rfl, Nat.le_of_ble_eq_true rfl⟩) ?_
  refine jz_bipush C dX4_figure_6 (by decide +kernel) ?_
  refine jz_isub C dX4_figure_8 ?_
  refine lv_istore (lv' := [(5, .int (iI ((cdx (F 12) n fr (R 29)) - 48))), (0, .ref (ad 0)), (1, .int (iI (fr))), (2, .int (iI (n))), (3, .int (iI (lo))), (4, .int (iI (hi)))]) hx hb dX4_figure_9 hl (by decide) rfl (fun ls hl => ?_)
  have hl : lv_has ls 7 [(5, .int (iI (w9 (cdx (F 12) n fr (R 29) - 48)))), (0, .ref (ad 0)), (1, .int (iI (fr))), (2, .int (iI (n))), (3, .int (iI (lo))), (4, .int (iI (hi)))] := by rw [iI_w9]; exact hl
  have hw9 : w9 (cdx (F 12) n fr (R 29) - 48) = cdx (F 12) n fr (R 29) - 48 ∨ w9 (cdx (F 12) n fr (R 29) - 48) = cdx (F 12) n fr (R 29) - 48 + 4294967296 ∧ cdx (F 12) n fr (R 29) < -2147483600 := by unfold w9; split <;> omega
  have hw8 : -2147483648 ≤ w9 (cdx (F 12) n fr (R 29) - 48) ∧ w9 (cdx (F 12) n fr (R 29) - 48) < 2147483648 := by unfold w9; split <;> omega
  refine lv_iload hx hb dX4_figure_11 (lv_at hl 0 rfl) ?_
  refine jz_i2l C dX4_figure_13 (by omega) ?_
  refine lv_iload_n hx hb dX4_figure_14 rfl (lv_at hl 4 rfl) ?_
  refine jz_i2l C dX4_figure_15 (by omega) ?_
  refine lv_iload hx hb dX4_figure_16 (lv_at hl 5 rfl) ?_
  refine jz_i2l C dX4_figure_18 (by omega) ?_
  refine jc_S C hl.1 (jpreS hE hP) (c_X4_in (w9 (cdx (F 12) n fr (R 29) - 48)) lo hi (show -9223372036854775808 ≤ (w9 (cdx (F 12) n fr (R 29) - 48)) ∧ (w9 (cdx (F 12) n fr (R 29) - 48)) < 9223372036854775808 from (by omega)) (show -9223372036854775808 ≤ lo ∧ lo < 9223372036854775808 from (by omega)) (show -9223372036854775808 ≤ hi ∧ hi < 9223372036854775808 from (by omega))) (va_cwS 3 C.2.2.2.2 gX4_figure_X4_in rfl rfl rfl (by decide +kernel) ⟨Nat.le_of_ble_eq_true rfl, Nat.le_of_ble_eq_true rfl⟩) (As := [.long (lI (w9 (cdx (F 12) n fr (R 29) - 48))), .long (lI (lo)), .long (lI (hi))]) (v := .int (iI (if lo ≤ (w9 (cdx (F 12) n fr (R 29) - 48)) ∧ (w9 (cdx (F 12) n fr (R 29) - 48)) ≤ hi then 1 else 0))) (hn := rfl) (hst := rfl) (rest := []) (hW := Nat.le_of_ble_eq_true rfl) (hdg := dX4_figure_19) (hf := ⟨Nat.le_of_ble_eq_true rfl, Nat.le_of_ble_eq_true rfl⟩) ?_
  refine lv_istore (lv' := [(6, .int (iI (if lo ≤ (w9 (cdx (F 12) n fr (R 29) - 48)) ∧ (w9 (cdx (F 12) n fr (R 29) - 48)) ≤ hi then 1 else 0))), (5, .int (iI (w9 (cdx (F 12) n fr (R 29) - 48)))), (0, .ref (ad 0)), (1, .int (iI (fr))), (2, .int (iI (n))), (3, .int (iI (lo))), (4, .int (iI (hi)))]) hx hb dX4_figure_22 hl (by decide) rfl (fun ls hl => ?_)
  refine lv_aload_n hx hb dX4_figure_24 rfl (lv_at hl 2 rfl) ?_
  refine lv_dup hx hb dX4_figure_25 rfl ?_
  refine fg_M_readAt C hin4 hE hP (v := F 12) (List.mem_of_getElem? (i := 1) rfl) dX4_figure_26 rfl ?_
  refine lv_iload hx hb dX4_figure_29 (lv_at hl 0 rfl) ?_
  refine jz_bool_eq (tgt := 38) C dX4_figure_31 (by decide) (fun h31 => ?_) (fun h31 => ?_)
  · skip
    refine jz_const C dX4_figure_38 ?_
    refine jz_iadd C dX4_figure_39 ?_
    refine fp_M_readAt C hin4 hE hP (jDM hD) hS (List.mem_of_getElem? (i := 1) rfl) dX4_figure_40 (fun H lc hP hS => ?_)
    refine lv_iload hx hb dX4_figure_43 (lv_at hl 0 rfl) ?_
    refine jz_bool_eq (tgt := 53) C dX4_figure_45 (by decide) (fun h45 => ?_) (fun h45 => ?_)
    · skip
      refine jz_bipush C dX4_figure_53 (by decide +kernel) ?_
      exact hret _ () _ _ _ _ dX4_figure_55 rfl hP hS
    · exfalso; omega
  · exfalso; omega
def k_X4_readsWork (F : Nat → Int) (R : Nat → Nat → Int) (fr : Int) (n : Int) (c : Int) : Int × (Nat → Int) × (Nat → Nat → Int) := if (F 15) = 4 then ((0, F, R)) else (if 49 ≤ cdx (F 12 + 1) n fr (R 29) ∧ cdx (F 12 + 1) n fr (R 29) ≤ 57 then ((1, (u1 (u1 (u1 F 12 ((F 12) + 1)) 12 ((((F 12) + 1)) + 1)) 15 ((F 15) + 1)), (uR (uR R 17 (u1 (R 17) (Int.toNat (F 15)) c)) 18 (u1 (R 18) (Int.toNat (F 15)) (cdx (((F 12) + 1)) n fr ((R 29)) - 48))))) else ((0, (u1 (u1 F 12 ((F 12) + 1)) 12 ((((F 12) + 1)) + 0)), R)))
abbrev rm_X4_readsWork : Room := { frames := 2, cells := 0, slots := 0, locals := 51 }
set_option maxHeartbeats 4000000 in
set_option maxRecDepth 100000 in
theorem c_X4_readsWork {l : Launch} {D : va_G} {cI cS : ClassId} {ad : Nat → Nat} {F : Nat → Int} {R : Nat → Nat → Int} {A : Nat → Prop} (hD : va_D A (wM cI ad F R))  (fr : Int) (n : Int) (c : Int)  (hB : BM F R n fr) (hlt : (F 12) < n) (hc : 0 ≤ c ∧ c < 24): JV l yX4_readsWork wsX4_readsWork rm_X4_readsWork (jB D cI cS (wM cI ad F R)) A [.ref (ad 0), .int (iI (fr)), .int (iI (n)), .int (iI (c))] (fun v9 (u9 : (Nat → Int) × (Nat → Nat → Int)) => v9 = some (.int (iI (k_X4_readsWork F R fr n c).1)) ∧ u9.1 = (k_X4_readsWork F R fr n c).2.1 ∧ u9.2 = (k_X4_readsWork F R fr n c).2.2) (fun u9 H => va_P D vwCl (wM cI ad u9.1 u9.2) H) := by
  refine JV.mkZ rfl (by decide +kernel) rfl (Nat.le_of_ble_eq_true rfl) ?_
  intro p e st mi ar bl mth cd Q ls C hB hl hret
  obtain ⟨hE, hP⟩ := hB
  have hx := C.1
  have hb := C.2.1
  have hl : lv_has ls 5 [(0, .ref (ad 0)), (1, .int (iI (fr))), (2, .int (iI (n))), (3, .int (iI (c)))] := hl
  have hin4 : ∀ w ∈ wsX40, w ∈ wsX4_readsWork := fun _ h => List.mem_cons_of_mem _ (List.mem_append_right _ h)
  suffices hgo : ∀ (H : Heap) (lc : List Loc), va_P D vwCl (wM cI ad F R) H → va_S A st.heap H lc → W p l e rm_X4_readsWork st mi ar bl mth cd H lc 0 0 Q (F0 mi 0 ls []) from hgo _ _ hP va_S.rf
  clear hP
  intro H lc hP hS
  have hp : 0 ≤ F 12 := hB.1.1
  have hpn : F 12 ≤ n := hB.1.2
  have hfr := hB.2.1
  have hwk := hB.2.2.1
  have hwd := hB.2.2.2.1
  have hwide := hB.2.2.2.2.1
  have hT := hB.2.2.2.2.2
  refine lv_aload_n hx hb dX4_readsWork_0 rfl (lv_at hl 0 rfl) ?_
  refine fg_M_readWorks C hin4 hE hP (v := F 15) (List.mem_of_getElem? (i := 1) rfl) dX4_readsWork_1 rfl ?_
  refine jz_const C dX4_readsWork_4 ?_
  refine jz_icmp_ne (tgt := 10) C dX4_readsWork_5 (by decide) (by omega) (fun h5 => ?_) (fun h5 => ?_)
  · skip
    refine lv_aload_n hx hb dX4_readsWork_10 rfl (lv_at hl 0 rfl) ?_
    refine lv_dup hx hb dX4_readsWork_11 rfl ?_
    refine fg_M_readAt C hin4 hE hP (v := F 12) (List.mem_of_getElem? (i := 2) rfl) dX4_readsWork_12 rfl ?_
    refine jz_const C dX4_readsWork_15 ?_
    refine jz_iadd C dX4_readsWork_16 ?_
    refine fp_M_readAt C hin4 hE hP (jDM hD) hS (List.mem_of_getElem? (i := 2) rfl) dX4_readsWork_17 (fun H lc hP hS => ?_)
    refine jz_sub (P := 49 ≤ cdx (F 12 + 1) n fr (R 29) ∧ cdx (F 12 + 1) n fr (R 29) ≤ 57) (fun hdg => ?_) (fun hdg => ?_)
    · skip
      refine lv_aload_n hx hb dX4_readsWork_20 rfl (lv_at hl 0 rfl) ?_
      refine lv_iload_n hx hb dX4_readsWork_21 rfl (lv_at hl 1 rfl) ?_
      refine lv_iload_n hx hb dX4_readsWork_22 rfl (lv_at hl 2 rfl) ?_
      refine jz_const C dX4_readsWork_23 ?_
      refine jz_bipush C dX4_readsWork_24 (by decide +kernel) ?_
      refine jw_V C hl.1 (jpreV hE hP 4 0 rfl rfl) (c_X4_figureT (A := A) (jDM hD) fr n 1 9 (show 0 ≤ ((F 12) + 1) from (by omega)) hfr hT (show ((F 12) + 1) ≤ 240 from (by omega)) (by decide) (show 48 + 1 ≤ cdx ((F 12) + 1) n fr (R 29) ∧ cdx ((F 12) + 1) n fr (R 29) ≤ 48 + 9 from (by omega))) (cwV 4 C.2.2.2.2 gX4_readsWork_X4_figure rfl rfl rfl (by decide +kernel) ⟨Nat.le_of_ble_eq_true rfl, Nat.le_of_ble_eq_true rfl⟩) (As := [.int (iI (fr)), .int (iI (n)), .int (iI (1)), .int (iI (9))]) (hn := rfl) (hst := rfl) (rest := []) (hW := Nat.le_of_ble_eq_true rfl) (hdg := dX4_readsWork_26) (hf := ⟨Nat.le_of_ble_eq_true rfl, Nat.le_of_ble_eq_true rfl⟩) hS (fun v9 uq26 H lc hq9 hP hS => ?_)
      obtain rfl : v9 = some (.int (iI (cdx (((F 12) + 1)) n fr ((R 29)) - 48))) := hq9
      have hP : va_P D vwCl (wM cI ad (u1 (u1 F 12 ((F 12) + 1)) 12 ((((F 12) + 1)) + 1)) R) H := hP
      refine lv_istore (lv' := [(4, .int (iI (cdx (((F 12) + 1)) n fr ((R 29)) - 48))), (0, .ref (ad 0)), (1, .int (iI (fr))), (2, .int (iI (n))), (3, .int (iI (c)))]) hx hb dX4_readsWork_29 hl (by decide) rfl (fun ls hl => ?_)
      refine lv_iload hx hb dX4_readsWork_31 (lv_at hl 0 rfl) ?_
      refine jz_if_ge (tgt := 38) C dX4_readsWork_33 (by decide) (by omega) (fun h33 => ?_) (fun h33 => ?_)
      · skip
        refine lv_aload_n hx hb dX4_readsWork_38 rfl (lv_at hl 1 rfl) ?_
        refine fg_M_readWork C hin4 hE hP (List.mem_of_getElem? (i := 3) rfl) dX4_readsWork_39 ?_
        refine lv_aload_n hx hb dX4_readsWork_42 rfl (lv_at hl 1 rfl) ?_
        refine fg_M_readWorks C hin4 hE hP (v := F 15) (List.mem_of_getElem? (i := 1) rfl) dX4_readsWork_43 rfl ?_
        refine lv_iload_n hx hb dX4_readsWork_46 rfl (lv_at hl 4 rfl) ?_
        refine fs_M_readWork C hE hP (jDM hD) hS dX4_readsWork_47 (by omega) (fun H lc hP hS => ?_)
        refine lv_aload_n hx hb dX4_readsWork_48 rfl (lv_at hl 1 rfl) ?_
        refine fg_M_readStrong C hin4 hE hP (List.mem_of_getElem? (i := 4) rfl) dX4_readsWork_49 ?_
        refine lv_aload_n hx hb dX4_readsWork_52 rfl (lv_at hl 1 rfl) ?_
        refine fg_M_readWorks C hin4 hE hP (v := F 15) (List.mem_of_getElem? (i := 1) rfl) dX4_readsWork_53 rfl ?_
        refine lv_iload hx hb dX4_readsWork_56 (lv_at hl 0 rfl) ?_
        refine fs_M_readStrong C hE hP (jDM hD) hS dX4_readsWork_58 (by omega) (fun H lc hP hS => ?_)
        refine lv_aload_n hx hb dX4_readsWork_59 rfl (lv_at hl 1 rfl) ?_
        refine lv_dup hx hb dX4_readsWork_60 rfl ?_
        refine fg_M_readWorks C hin4 hE hP (v := F 15) (List.mem_of_getElem? (i := 1) rfl) dX4_readsWork_61 rfl ?_
        refine jz_const C dX4_readsWork_64 ?_
        refine jz_iadd C dX4_readsWork_65 ?_
        refine fp_M_readWorks C hin4 hE hP (jDM hD) hS (List.mem_of_getElem? (i := 1) rfl) dX4_readsWork_66 (fun H lc hP hS => ?_)
        refine jz_const C dX4_readsWork_69 ?_
        have hk9 : k_X4_readsWork F R fr n c = (1, (u1 (u1 (u1 F 12 ((F 12) + 1)) 12 ((((F 12) + 1)) + 1)) 15 ((F 15) + 1)), (uR (uR R 17 (u1 (R 17) (Int.toNat (F 15)) c)) 18 (u1 (R 18) (Int.toNat (F 15)) (cdx (((F 12) + 1)) n fr ((R 29)) - 48)))) := by rw [k_X4_readsWork, (if_neg (h5)), (if_pos hdg)]
        exact hret _ ((u1 (u1 (u1 F 12 ((F 12) + 1)) 12 ((((F 12) + 1)) + 1)) 15 ((F 15) + 1)), (uR (uR R 17 (u1 (R 17) (Int.toNat (F 15)) c)) 18 (u1 (R 18) (Int.toNat (F 15)) (cdx (((F 12) + 1)) n fr ((R 29)) - 48)))) _ _ _ _ dX4_readsWork_70 (by decide +kernel) ⟨by rw [hk9], by rw [hk9], by rw [hk9]⟩ hP hS
      · exfalso; omega
    · skip
      refine lv_aload_n hx hb dX4_readsWork_20 rfl (lv_at hl 0 rfl) ?_
      refine lv_iload_n hx hb dX4_readsWork_21 rfl (lv_at hl 1 rfl) ?_
      refine lv_iload_n hx hb dX4_readsWork_22 rfl (lv_at hl 2 rfl) ?_
      refine jz_const C dX4_readsWork_23 ?_
      refine jz_bipush C dX4_readsWork_24 (by decide +kernel) ?_
      refine jw_V C hl.1 (jpreV hE hP 4 0 rfl rfl) (c_X4_figureF (A := A) (jDM hD) fr n 1 9 (show 0 ≤ ((F 12) + 1) from (by omega)) hfr hT (show ((F 12) + 1) ≤ 240 from (by omega)) (by decide) (show ¬ (48 + 1 ≤ cdx ((F 12) + 1) n fr (R 29) ∧ cdx ((F 12) + 1) n fr (R 29) ≤ 48 + 9) from (by omega))) (cwV 4 C.2.2.2.2 gX4_readsWork_X4_figure rfl rfl rfl (by decide +kernel) ⟨Nat.le_of_ble_eq_true rfl, Nat.le_of_ble_eq_true rfl⟩) (As := [.int (iI (fr)), .int (iI (n)), .int (iI (1)), .int (iI (9))]) (hn := rfl) (hst := rfl) (rest := []) (hW := Nat.le_of_ble_eq_true rfl) (hdg := dX4_readsWork_26) (hf := ⟨Nat.le_of_ble_eq_true rfl, Nat.le_of_ble_eq_true rfl⟩) hS (fun v9 uq26 H lc hq9 hP hS => ?_)
      obtain rfl : v9 = some (.int (iI (-9))) := hq9
      have hP : va_P D vwCl (wM cI ad (u1 (u1 F 12 ((F 12) + 1)) 12 ((((F 12) + 1)) + 0)) R) H := hP
      refine lv_istore (lv' := [(4, .int (iI (-9))), (0, .ref (ad 0)), (1, .int (iI (fr))), (2, .int (iI (n))), (3, .int (iI (c)))]) hx hb dX4_readsWork_29 hl (by decide) rfl (fun ls hl => ?_)
      refine lv_iload hx hb dX4_readsWork_31 (lv_at hl 0 rfl) ?_
      refine jz_if_ge (tgt := 38) C dX4_readsWork_33 (by decide) (by omega) (fun h33 => ?_) (fun h33 => ?_)
      · exact absurd h33 (by decide)
      · skip
        refine jz_const C dX4_readsWork_36 ?_
        have hk9 : k_X4_readsWork F R fr n c = (0, (u1 (u1 F 12 ((F 12) + 1)) 12 ((((F 12) + 1)) + 0)), R) := by rw [k_X4_readsWork, (if_neg (h5)), (if_neg hdg)]
        exact hret _ ((u1 (u1 F 12 ((F 12) + 1)) 12 ((((F 12) + 1)) + 0)), R) _ _ _ _ dX4_readsWork_37 (by decide +kernel) ⟨by rw [hk9], by rw [hk9], by rw [hk9]⟩ hP hS
  · skip
    refine jz_const C dX4_readsWork_8 ?_
    have hk9 : k_X4_readsWork F R fr n c = (0, F, R) := by rw [k_X4_readsWork, (if_pos h5)]
    exact hret _ (F, R) _ _ _ _ dX4_readsWork_9 (by decide +kernel) ⟨by rw [hk9], by rw [hk9], by rw [hk9]⟩ hP hS
def k_X4_readsWard (F : Nat → Int) (R : Nat → Nat → Int) (fr : Int) (n : Int) (c : Int) (kind : Int) : Int × (Nat → Int) × (Nat → Nat → Int) := if (F 16) = 6 then ((0, F, R)) else (if 49 ≤ cdx (F 12 + 1) n fr (R 29) ∧ cdx (F 12 + 1) n fr (R 29) ≤ 57 then ((1, (u1 (u1 (u1 F 12 ((F 12) + 1)) 12 ((((F 12) + 1)) + 1)) 16 ((F 16) + 1)), (uR (uR (uR R 19 (u1 (R 19) (Int.toNat (F 16)) c)) 20 (u1 (R 20) (Int.toNat (F 16)) kind)) 21 (u1 (R 21) (Int.toNat (F 16)) (cdx (((F 12) + 1)) n fr ((R 29)) - 48))))) else ((0, (u1 (u1 F 12 ((F 12) + 1)) 12 ((((F 12) + 1)) + 0)), R)))
abbrev rm_X4_readsWard : Room := { frames := 2, cells := 0, slots := 0, locals := 51 }
set_option maxHeartbeats 4000000 in
set_option maxRecDepth 100000 in
theorem c_X4_readsWard {l : Launch} {D : va_G} {cI cS : ClassId} {ad : Nat → Nat} {F : Nat → Int} {R : Nat → Nat → Int} {A : Nat → Prop} (hD : va_D A (wM cI ad F R))  (fr : Int) (n : Int) (c : Int) (kind : Int)  (hB : BM F R n fr) (hlt : (F 12) < n) (hc : 0 ≤ c ∧ c < 24) (hkd : 0 ≤ kind ∧ kind ≤ 2): JV l yX4_readsWard wsX4_readsWard rm_X4_readsWard (jB D cI cS (wM cI ad F R)) A [.ref (ad 0), .int (iI (fr)), .int (iI (n)), .int (iI (c)), .int (iI (kind))] (fun v9 (u9 : (Nat → Int) × (Nat → Nat → Int)) => v9 = some (.int (iI (k_X4_readsWard F R fr n c kind).1)) ∧ u9.1 = (k_X4_readsWard F R fr n c kind).2.1 ∧ u9.2 = (k_X4_readsWard F R fr n c kind).2.2) (fun u9 H => va_P D vwCl (wM cI ad u9.1 u9.2) H) := by
  refine JV.mkZ rfl (by decide +kernel) rfl (Nat.le_of_ble_eq_true rfl) ?_
  intro p e st mi ar bl mth cd Q ls C hB hl hret
  obtain ⟨hE, hP⟩ := hB
  have hx := C.1
  have hb := C.2.1
  have hl : lv_has ls 6 [(0, .ref (ad 0)), (1, .int (iI (fr))), (2, .int (iI (n))), (3, .int (iI (c))), (4, .int (iI (kind)))] := hl
  have hin4 : ∀ w ∈ wsX40, w ∈ wsX4_readsWard := fun _ h => List.mem_cons_of_mem _ (List.mem_append_right _ h)
  suffices hgo : ∀ (H : Heap) (lc : List Loc), va_P D vwCl (wM cI ad F R) H → va_S A st.heap H lc → W p l e rm_X4_readsWard st mi ar bl mth cd H lc 0 0 Q (F0 mi 0 ls []) from hgo _ _ hP va_S.rf
  clear hP
  intro H lc hP hS
  have hp : 0 ≤ F 12 := hB.1.1
  have hpn : F 12 ≤ n := hB.1.2
  have hfr := hB.2.1
  have hwk := hB.2.2.1
  have hwd := hB.2.2.2.1
  have hwide := hB.2.2.2.2.1
  have hT := hB.2.2.2.2.2
  refine lv_aload_n hx hb dX4_readsWard_0 rfl (lv_at hl 0 rfl) ?_
  refine fg_M_readWards C hin4 hE hP (v := F 16) (List.mem_of_getElem? (i := 1) rfl) dX4_readsWard_1 rfl ?_
  refine jz_bipush C dX4_readsWard_4 (by decide +kernel) ?_
  refine jz_icmp_ne (tgt := 11) C dX4_readsWard_6 (by decide) (by omega) (fun h6 => ?_) (fun h6 => ?_)
  · skip
    refine lv_aload_n hx hb dX4_readsWard_11 rfl (lv_at hl 0 rfl) ?_
    refine lv_dup hx hb dX4_readsWard_12 rfl ?_
    refine fg_M_readAt C hin4 hE hP (v := F 12) (List.mem_of_getElem? (i := 2) rfl) dX4_readsWard_13 rfl ?_
    refine jz_const C dX4_readsWard_16 ?_
    refine jz_iadd C dX4_readsWard_17 ?_
    refine fp_M_readAt C hin4 hE hP (jDM hD) hS (List.mem_of_getElem? (i := 2) rfl) dX4_readsWard_18 (fun H lc hP hS => ?_)
    refine jz_sub (P := 49 ≤ cdx (F 12 + 1) n fr (R 29) ∧ cdx (F 12 + 1) n fr (R 29) ≤ 57) (fun hdg => ?_) (fun hdg => ?_)
    · skip
      refine lv_aload_n hx hb dX4_readsWard_21 rfl (lv_at hl 0 rfl) ?_
      refine lv_iload_n hx hb dX4_readsWard_22 rfl (lv_at hl 1 rfl) ?_
      refine lv_iload_n hx hb dX4_readsWard_23 rfl (lv_at hl 2 rfl) ?_
      refine jz_const C dX4_readsWard_24 ?_
      refine jz_bipush C dX4_readsWard_25 (by decide +kernel) ?_
      refine jw_V C hl.1 (jpreV hE hP 4 0 rfl rfl) (c_X4_figureT (A := A) (jDM hD) fr n 1 9 (show 0 ≤ ((F 12) + 1) from (by omega)) hfr hT (show ((F 12) + 1) ≤ 240 from (by omega)) (by decide) (show 48 + 1 ≤ cdx ((F 12) + 1) n fr (R 29) ∧ cdx ((F 12) + 1) n fr (R 29) ≤ 48 + 9 from (by omega))) (cwV 4 C.2.2.2.2 gX4_readsWard_X4_figure rfl rfl rfl (by decide +kernel) ⟨Nat.le_of_ble_eq_true rfl, Nat.le_of_ble_eq_true rfl⟩) (As := [.int (iI (fr)), .int (iI (n)), .int (iI (1)), .int (iI (9))]) (hn := rfl) (hst := rfl) (rest := []) (hW := Nat.le_of_ble_eq_true rfl) (hdg := dX4_readsWard_27) (hf := ⟨Nat.le_of_ble_eq_true rfl, Nat.le_of_ble_eq_true rfl⟩) hS (fun v9 uq27 H lc hq9 hP hS => ?_)
      obtain rfl : v9 = some (.int (iI (cdx (((F 12) + 1)) n fr ((R 29)) - 48))) := hq9
      have hP : va_P D vwCl (wM cI ad (u1 (u1 F 12 ((F 12) + 1)) 12 ((((F 12) + 1)) + 1)) R) H := hP
      refine lv_istore (lv' := [(5, .int (iI (cdx (((F 12) + 1)) n fr ((R 29)) - 48))), (0, .ref (ad 0)), (1, .int (iI (fr))), (2, .int (iI (n))), (3, .int (iI (c))), (4, .int (iI (kind)))]) hx hb dX4_readsWard_30 hl (by decide) rfl (fun ls hl => ?_)
      refine lv_iload hx hb dX4_readsWard_32 (lv_at hl 0 rfl) ?_
      refine jz_if_ge (tgt := 39) C dX4_readsWard_34 (by decide) (by omega) (fun h34 => ?_) (fun h34 => ?_)
      · skip
        refine lv_aload_n hx hb dX4_readsWard_39 rfl (lv_at hl 1 rfl) ?_
        refine fg_M_readWard C hin4 hE hP (List.mem_of_getElem? (i := 3) rfl) dX4_readsWard_40 ?_
        refine lv_aload_n hx hb dX4_readsWard_43 rfl (lv_at hl 1 rfl) ?_
        refine fg_M_readWards C hin4 hE hP (v := F 16) (List.mem_of_getElem? (i := 1) rfl) dX4_readsWard_44 rfl ?_
        refine lv_iload_n hx hb dX4_readsWard_47 rfl (lv_at hl 4 rfl) ?_
        refine fs_M_readWard C hE hP (jDM hD) hS dX4_readsWard_48 (by omega) (fun H lc hP hS => ?_)
        refine lv_aload_n hx hb dX4_readsWard_49 rfl (lv_at hl 1 rfl) ?_
        refine fg_M_readKind C hin4 hE hP (List.mem_of_getElem? (i := 4) rfl) dX4_readsWard_50 ?_
        refine lv_aload_n hx hb dX4_readsWard_53 rfl (lv_at hl 1 rfl) ?_
        refine fg_M_readWards C hin4 hE hP (v := F 16) (List.mem_of_getElem? (i := 1) rfl) dX4_readsWard_54 rfl ?_
        refine lv_iload hx hb dX4_readsWard_57 (lv_at hl 5 rfl) ?_
        refine fs_M_readKind C hE hP (jDM hD) hS dX4_readsWard_59 (by omega) (fun H lc hP hS => ?_)
        refine lv_aload_n hx hb dX4_readsWard_60 rfl (lv_at hl 1 rfl) ?_
        refine fg_M_readNose C hin4 hE hP (List.mem_of_getElem? (i := 5) rfl) dX4_readsWard_61 ?_
        refine lv_aload_n hx hb dX4_readsWard_64 rfl (lv_at hl 1 rfl) ?_
        refine fg_M_readWards C hin4 hE hP (v := F 16) (List.mem_of_getElem? (i := 1) rfl) dX4_readsWard_65 rfl ?_
        refine lv_iload hx hb dX4_readsWard_68 (lv_at hl 0 rfl) ?_
        refine fs_M_readNose C hE hP (jDM hD) hS dX4_readsWard_70 (by omega) (fun H lc hP hS => ?_)
        refine lv_aload_n hx hb dX4_readsWard_71 rfl (lv_at hl 1 rfl) ?_
        refine lv_dup hx hb dX4_readsWard_72 rfl ?_
        refine fg_M_readWards C hin4 hE hP (v := F 16) (List.mem_of_getElem? (i := 1) rfl) dX4_readsWard_73 rfl ?_
        refine jz_const C dX4_readsWard_76 ?_
        refine jz_iadd C dX4_readsWard_77 ?_
        refine fp_M_readWards C hin4 hE hP (jDM hD) hS (List.mem_of_getElem? (i := 1) rfl) dX4_readsWard_78 (fun H lc hP hS => ?_)
        refine jz_const C dX4_readsWard_81 ?_
        have hk9 : k_X4_readsWard F R fr n c kind = (1, (u1 (u1 (u1 F 12 ((F 12) + 1)) 12 ((((F 12) + 1)) + 1)) 16 ((F 16) + 1)), (uR (uR (uR R 19 (u1 (R 19) (Int.toNat (F 16)) c)) 20 (u1 (R 20) (Int.toNat (F 16)) kind)) 21 (u1 (R 21) (Int.toNat (F 16)) (cdx (((F 12) + 1)) n fr ((R 29)) - 48)))) := by rw [k_X4_readsWard, (if_neg (h6)), (if_pos hdg)]
        exact hret _ ((u1 (u1 (u1 F 12 ((F 12) + 1)) 12 ((((F 12) + 1)) + 1)) 16 ((F 16) + 1)), (uR (uR (uR R 19 (u1 (R 19) (Int.toNat (F 16)) c)) 20 (u1 (R 20) (Int.toNat (F 16)) kind)) 21 (u1 (R 21) (Int.toNat (F 16)) (cdx (((F 12) + 1)) n fr ((R 29)) - 48)))) _ _ _ _ dX4_readsWard_82 (by decide +kernel) ⟨by rw [hk9], by rw [hk9], by rw [hk9]⟩ hP hS
      · exfalso; omega
    · skip
      refine lv_aload_n hx hb dX4_readsWard_21 rfl (lv_at hl 0 rfl) ?_
      refine lv_iload_n hx hb dX4_readsWard_22 rfl (lv_at hl 1 rfl) ?_
      refine lv_iload_n hx hb dX4_readsWard_23 rfl (lv_at hl 2 rfl) ?_
      refine jz_const C dX4_readsWard_24 ?_
      refine jz_bipush C dX4_readsWard_25 (by decide +kernel) ?_
      refine jw_V C hl.1 (jpreV hE hP 4 0 rfl rfl) (c_X4_figureF (A := A) (jDM hD) fr n 1 9 (show 0 ≤ ((F 12) + 1) from (by omega)) hfr hT (show ((F 12) + 1) ≤ 240 from (by omega)) (by decide) (show ¬ (48 + 1 ≤ cdx ((F 12) + 1) n fr (R 29) ∧ cdx ((F 12) + 1) n fr (R 29) ≤ 48 + 9) from (by omega))) (cwV 4 C.2.2.2.2 gX4_readsWard_X4_figure rfl rfl rfl (by decide +kernel) ⟨Nat.le_of_ble_eq_true rfl, Nat.le_of_ble_eq_true rfl⟩) (As := [.int (iI (fr)), .int (iI (n)), .int (iI (1)), .int (iI (9))]) (hn := rfl) (hst := rfl) (rest := []) (hW := Nat.le_of_ble_eq_true rfl) (hdg := dX4_readsWard_27) (hf := ⟨Nat.le_of_ble_eq_true rfl, Nat.le_of_ble_eq_true rfl⟩) hS (fun v9 uq27 H lc hq9 hP hS => ?_)
      obtain rfl : v9 = some (.int (iI (-9))) := hq9
      have hP : va_P D vwCl (wM cI ad (u1 (u1 F 12 ((F 12) + 1)) 12 ((((F 12) + 1)) + 0)) R) H := hP
      refine lv_istore (lv' := [(5, .int (iI (-9))), (0, .ref (ad 0)), (1, .int (iI (fr))), (2, .int (iI (n))), (3, .int (iI (c))), (4, .int (iI (kind)))]) hx hb dX4_readsWard_30 hl (by decide) rfl (fun ls hl => ?_)
      refine lv_iload hx hb dX4_readsWard_32 (lv_at hl 0 rfl) ?_
      refine jz_if_ge (tgt := 39) C dX4_readsWard_34 (by decide) (by omega) (fun h34 => ?_) (fun h34 => ?_)
      · exact absurd h34 (by decide)
      · skip
        refine jz_const C dX4_readsWard_37 ?_
        have hk9 : k_X4_readsWard F R fr n c kind = (0, (u1 (u1 F 12 ((F 12) + 1)) 12 ((((F 12) + 1)) + 0)), R) := by rw [k_X4_readsWard, (if_neg (h6)), (if_neg hdg)]
        exact hret _ ((u1 (u1 F 12 ((F 12) + 1)) 12 ((((F 12) + 1)) + 0)), R) _ _ _ _ dX4_readsWard_38 (by decide +kernel) ⟨by rw [hk9], by rw [hk9], by rw [hk9]⟩ hP hS
  · skip
    refine jz_const C dX4_readsWard_9 ?_
    have hk9 : k_X4_readsWard F R fr n c kind = (0, F, R) := by rw [k_X4_readsWard, (if_pos h6)]
    exact hret _ (F, R) _ _ _ _ dX4_readsWard_10 (by decide +kernel) ⟨by rw [hk9], by rw [hk9], by rw [hk9]⟩ hP hS
theorem rk_01 {F : Nat → Int} {R : Nat → Nat → Int} {fr n c : Int} : (k_X4_readsWork F R fr n c).1 = 0 ∨ (k_X4_readsWork F R fr n c).1 = 1 := by
  unfold k_X4_readsWork
  repeat' split
  all_goals first | exact Or.inl rfl | exact Or.inr rfl
theorem rd_01 {F : Nat → Int} {R : Nat → Nat → Int} {fr n c kind : Int} : (k_X4_readsWard F R fr n c kind).1 = 0 ∨ (k_X4_readsWard F R fr n c kind).1 = 1 := by
  unfold k_X4_readsWard
  repeat' split
  all_goals first | exact Or.inl rfl | exact Or.inr rfl
def k_X4_readsSpot (F : Nat → Int) (R : Nat → Nat → Int) (fr : Int) (n : Int) (c : Int) : Int × (Nat → Int) × (Nat → Nat → Int) := if (c % (F 14)) = 0 then (if (cdx (F 12) n fr (R 29)) = 59 then (if cdx ((F 12) + 1) n fr (R 29) = 46 then ((1, (u1 (u1 F 12 ((F 12) + 1)) 12 (((F 12) + 1) + 1)), R)) else (if cdx ((F 12) + 1) n fr (R 29) = 102 then (((k_X4_readsWard (u1 F 12 ((F 12) + 1)) R fr n c 2).1, (k_X4_readsWard (u1 F 12 ((F 12) + 1)) R fr n c 2).2.1, (k_X4_readsWard (u1 F 12 ((F 12) + 1)) R fr n c 2).2.2)) else (if cdx ((F 12) + 1) n fr (R 29) = 114 then (((k_X4_readsWard (u1 F 12 ((F 12) + 1)) R fr n c 1).1, (k_X4_readsWard (u1 F 12 ((F 12) + 1)) R fr n c 1).2.1, (k_X4_readsWard (u1 F 12 ((F 12) + 1)) R fr n c 1).2.2)) else (if cdx ((F 12) + 1) n fr (R 29) = 119 then (((k_X4_readsWard (u1 F 12 ((F 12) + 1)) R fr n c 0).1, (k_X4_readsWard (u1 F 12 ((F 12) + 1)) R fr n c 0).2.1, (k_X4_readsWard (u1 F 12 ((F 12) + 1)) R fr n c 0).2.2)) else (if cdx ((F 12) + 1) n fr (R 29) = 120 then (((k_X4_readsWork (u1 F 12 ((F 12) + 1)) R fr n c).1, (k_X4_readsWork (u1 F 12 ((F 12) + 1)) R fr n c).2.1, (k_X4_readsWork (u1 F 12 ((F 12) + 1)) R fr n c).2.2)) else ((0, (u1 F 12 ((F 12) + 1)), R))))))) else ((0, F, R))) else (if cdx (F 12) n fr (R 29) = 46 then ((1, (u1 F 12 ((F 12) + 1)), R)) else (if cdx (F 12) n fr (R 29) = 102 then (((k_X4_readsWard F R fr n c 2).1, (k_X4_readsWard F R fr n c 2).2.1, (k_X4_readsWard F R fr n c 2).2.2)) else (if cdx (F 12) n fr (R 29) = 114 then (((k_X4_readsWard F R fr n c 1).1, (k_X4_readsWard F R fr n c 1).2.1, (k_X4_readsWard F R fr n c 1).2.2)) else (if cdx (F 12) n fr (R 29) = 119 then (((k_X4_readsWard F R fr n c 0).1, (k_X4_readsWard F R fr n c 0).2.1, (k_X4_readsWard F R fr n c 0).2.2)) else (if cdx (F 12) n fr (R 29) = 120 then (((k_X4_readsWork F R fr n c).1, (k_X4_readsWork F R fr n c).2.1, (k_X4_readsWork F R fr n c).2.2)) else ((0, F, R)))))))
abbrev rm_X4_readsSpot : Room := { frames := 3, cells := 0, slots := 0, locals := 76 }
set_option maxHeartbeats 4000000 in
set_option maxRecDepth 100000 in
theorem c_X4_readsSpot {l : Launch} {D : va_G} {cI cS : ClassId} {ad : Nat → Nat} {F : Nat → Int} {R : Nat → Nat → Int} {A : Nat → Prop} (hD : va_D A (wM cI ad F R))  (fr : Int) (n : Int) (c : Int)  (hB : BM F R n fr) (hc : 0 ≤ c ∧ c < 24): JV l yX4_readsSpot wsX4_readsSpot rm_X4_readsSpot (jB D cI cS (wM cI ad F R)) A [.ref (ad 0), .int (iI (fr)), .int (iI (n)), .int (iI (c))] (fun v9 (u9 : (Nat → Int) × (Nat → Nat → Int)) => v9 = some (.int (iI (k_X4_readsSpot F R fr n c).1)) ∧ u9.1 = (k_X4_readsSpot F R fr n c).2.1 ∧ u9.2 = (k_X4_readsSpot F R fr n c).2.2) (fun u9 H => va_P D vwCl (wM cI ad u9.1 u9.2) H) := by
  refine JV.mkZ rfl (by decide +kernel) rfl (Nat.le_of_ble_eq_true rfl) ?_
  intro p e st mi ar bl mth cd Q ls C hB hl hret
  obtain ⟨hE, hP⟩ := hB
  have hx := C.1
  have hb := C.2.1
  have hl : lv_has ls 4 [(0, .ref (ad 0)), (1, .int (iI (fr))), (2, .int (iI (n))), (3, .int (iI (c)))] := hl
  have hin4 : ∀ w ∈ wsX40, w ∈ wsX4_readsSpot := fun _ h => List.mem_cons_of_mem _ (List.mem_append_right _ h)
  suffices hgo : ∀ (H : Heap) (lc : List Loc), va_P D vwCl (wM cI ad F R) H → va_S A st.heap H lc → W p l e rm_X4_readsSpot st mi ar bl mth cd H lc 0 0 Q (F0 mi 0 ls []) from hgo _ _ hP va_S.rf
  clear hP
  intro H lc hP hS
  have hp : 0 ≤ F 12 := hB.1.1
  have hpn : F 12 ≤ n := hB.1.2
  have hfr := hB.2.1
  have hwk := hB.2.2.1
  have hwd := hB.2.2.2.1
  have hwide := hB.2.2.2.2.1
  have hT := hB.2.2.2.2.2
  have hcm := Int.emod_nonneg c (b := F 14) (by omega)
  have hcm2 := Int.emod_lt_of_pos c (b := F 14) (by omega)
  have hcr0 := cdx_rng (p := F 12) (n := n) (fr := fr) (by omega) hfr hT
  refine lv_iload_n hx hb dX4_readsSpot_0 rfl (lv_at hl 3 rfl) ?_
  refine lv_aload_n hx hb dX4_readsSpot_1 rfl (lv_at hl 0 rfl) ?_
  refine fg_M_readWide C hin4 hE hP (v := F 14) (List.mem_of_getElem? (i := 1) rfl) dX4_readsSpot_2 rfl ?_
  refine jz_irem C dX4_readsSpot_5 (by omega) ?_
  refine jz_if_ne (tgt := 32) C dX4_readsSpot_6 (by decide) (by omega) (fun h6 => ?_) (fun h6 => ?_)
  · skip
    have hcr := cdx_rng (p := F 12) (n := n) (fr := fr) (by omega) hfr hT
    have hlt : ¬ cdx (F 12) n fr (R 29) = -9 → F 12 < n := cdx_lt
    have hBX : BM F R n fr := by first | exact hB | exact ⟨⟨by show 0 ≤ F 12 + 1; omega, by show F 12 + 1 ≤ n; omega⟩, hB.2⟩
    refine lv_aload_n hx hb dX4_readsSpot_32 rfl (lv_at hl 0 rfl) ?_
    refine lv_iload_n hx hb dX4_readsSpot_33 rfl (lv_at hl 1 rfl) ?_
    refine lv_iload_n hx hb dX4_readsSpot_34 rfl (lv_at hl 2 rfl) ?_
    refine jc_V C hl.1 (jpreV hE hP 4 0 rfl rfl) (c_X4_codeAt fr n (show 0 ≤ (F 12) from (by omega)) hfr hT (show (F 12) ≤ 240 from (by omega))) (cwV 2 C.2.2.2.2 gX4_readsSpot_X4_codeAt rfl rfl rfl (by decide +kernel) ⟨Nat.le_of_ble_eq_true rfl, Nat.le_of_ble_eq_true rfl⟩) (As := [.int (iI (fr)), .int (iI (n))]) (v := .int (iI (cdx (F 12) n fr (R 29)))) (hn := rfl) (hst := rfl) (rest := []) (hW := Nat.le_of_ble_eq_true rfl) (hdg := dX4_readsSpot_35) (hf := ⟨Nat.le_of_ble_eq_true rfl, Nat.le_of_ble_eq_true rfl⟩) ?_
    refine jz_sub (P := cdx (F 12) n fr (R 29) = 46) (fun h38_0 => ?_) (fun h38_0 => ?_)
    · refine jz_look (tgt := 88) C dX4_readsSpot_38 (by decide) (by omega) (by first | (rw [h38_0]; done) | (rw [h38_0]; rfl)) (by decide) ?_
      refine lv_aload_n hx hb dX4_readsSpot_88 rfl (lv_at hl 0 rfl) ?_
      refine lv_dup hx hb dX4_readsSpot_89 rfl ?_
      refine fg_M_readAt C hin4 hE hP (v := F 12) (List.mem_of_getElem? (i := 2) rfl) dX4_readsSpot_90 rfl ?_
      refine jz_const C dX4_readsSpot_93 ?_
      refine jz_iadd C dX4_readsSpot_94 ?_
      refine fp_M_readAt C hin4 hE hP (jDM hD) hS (List.mem_of_getElem? (i := 2) rfl) dX4_readsSpot_95 (fun H lc hP hS => ?_)
      refine jz_const C dX4_readsSpot_98 ?_
      have hk9 : k_X4_readsSpot F R fr n c = (1, (u1 F 12 ((F 12) + 1)), R) := by rw [k_X4_readsSpot, (if_neg (h6)), (if_pos h38_0)]
      exact hret _ ((u1 F 12 ((F 12) + 1)), R) _ _ _ _ dX4_readsSpot_99 (by decide +kernel) ⟨by rw [hk9], by rw [hk9], by rw [hk9]⟩ hP hS
    refine jz_sub (P := cdx (F 12) n fr (R 29) = 102) (fun h38_1 => ?_) (fun h38_1 => ?_)
    · refine jz_look (tgt := 126) C dX4_readsSpot_38 (by decide) (by omega) (by first | (rw [h38_1]; done) | (rw [h38_1]; rfl)) (by decide) ?_
      refine lv_aload_n hx hb dX4_readsSpot_126 rfl (lv_at hl 0 rfl) ?_
      refine lv_iload_n hx hb dX4_readsSpot_127 rfl (lv_at hl 1 rfl) ?_
      refine lv_iload_n hx hb dX4_readsSpot_128 rfl (lv_at hl 2 rfl) ?_
      refine lv_iload_n hx hb dX4_readsSpot_129 rfl (lv_at hl 3 rfl) ?_
      refine jz_const C dX4_readsSpot_130 ?_
      refine jw_V C hl.1 (jpreV hE hP 4 0 rfl rfl) (c_X4_readsWard (A := A) (jDM hD) fr n c 2 hBX (hlt (by omega)) (show 0 ≤ c ∧ c < 24 from (by omega)) (show 0 ≤ 2 ∧ 2 ≤ 2 from (by omega))) (cwV 4 C.2.2.2.2 gX4_readsSpot_X4_readsWard rfl rfl rfl (by decide +kernel) ⟨Nat.le_of_ble_eq_true rfl, Nat.le_of_ble_eq_true rfl⟩) (As := [.int (iI (fr)), .int (iI (n)), .int (iI (c)), .int (iI (2))]) (hn := rfl) (hst := rfl) (rest := []) (hW := Nat.le_of_ble_eq_true rfl) (hdg := dX4_readsSpot_131) (hf := ⟨Nat.le_of_ble_eq_true rfl, Nat.le_of_ble_eq_true rfl⟩) hS (fun v9 uq131 H lc hq9 hP hS => ?_)
      obtain ⟨F131, R131⟩ := uq131
      obtain ⟨hv9, hI9, hR9⟩ := hq9
      subst hv9
      dsimp only at hI9 hR9
      subst hI9
      subst hR9
      have hP : va_P D vwCl (wM cI ad (k_X4_readsWard F R fr n c 2).2.1 (k_X4_readsWard F R fr n c 2).2.2) H := hP
      have hk9 : k_X4_readsSpot F R fr n c = ((k_X4_readsWard F R fr n c 2).1, (k_X4_readsWard F R fr n c 2).2.1, (k_X4_readsWard F R fr n c 2).2.2) := by rw [k_X4_readsSpot, (if_neg (h6)), (if_neg h38_0), (if_pos h38_1)]
      exact hret _ ((k_X4_readsWard F R fr n c 2).2.1, (k_X4_readsWard F R fr n c 2).2.2) _ _ _ _ dX4_readsSpot_134 (jz_z01 rd_01).1 ⟨by rw [hk9], by rw [hk9], by rw [hk9]⟩ hP hS
    refine jz_sub (P := cdx (F 12) n fr (R 29) = 114) (fun h38_2 => ?_) (fun h38_2 => ?_)
    · refine jz_look (tgt := 117) C dX4_readsSpot_38 (by decide) (by omega) (by first | (rw [h38_2]; done) | (rw [h38_2]; rfl)) (by decide) ?_
      refine lv_aload_n hx hb dX4_readsSpot_117 rfl (lv_at hl 0 rfl) ?_
      refine lv_iload_n hx hb dX4_readsSpot_118 rfl (lv_at hl 1 rfl) ?_
      refine lv_iload_n hx hb dX4_readsSpot_119 rfl (lv_at hl 2 rfl) ?_
      refine lv_iload_n hx hb dX4_readsSpot_120 rfl (lv_at hl 3 rfl) ?_
      refine jz_const C dX4_readsSpot_121 ?_
      refine jw_V C hl.1 (jpreV hE hP 4 0 rfl rfl) (c_X4_readsWard (A := A) (jDM hD) fr n c 1 hBX (hlt (by omega)) (show 0 ≤ c ∧ c < 24 from (by omega)) (show 0 ≤ 1 ∧ 1 ≤ 2 from (by omega))) (cwV 4 C.2.2.2.2 gX4_readsSpot_X4_readsWard rfl rfl rfl (by decide +kernel) ⟨Nat.le_of_ble_eq_true rfl, Nat.le_of_ble_eq_true rfl⟩) (As := [.int (iI (fr)), .int (iI (n)), .int (iI (c)), .int (iI (1))]) (hn := rfl) (hst := rfl) (rest := []) (hW := Nat.le_of_ble_eq_true rfl) (hdg := dX4_readsSpot_122) (hf := ⟨Nat.le_of_ble_eq_true rfl, Nat.le_of_ble_eq_true rfl⟩) hS (fun v9 uq122 H lc hq9 hP hS => ?_)
      obtain ⟨F122, R122⟩ := uq122
      obtain ⟨hv9, hI9, hR9⟩ := hq9
      subst hv9
      dsimp only at hI9 hR9
      subst hI9
      subst hR9
      have hP : va_P D vwCl (wM cI ad (k_X4_readsWard F R fr n c 1).2.1 (k_X4_readsWard F R fr n c 1).2.2) H := hP
      have hk9 : k_X4_readsSpot F R fr n c = ((k_X4_readsWard F R fr n c 1).1, (k_X4_readsWard F R fr n c 1).2.1, (k_X4_readsWard F R fr n c 1).2.2) := by rw [k_X4_readsSpot, (if_neg (h6)), (if_neg h38_0), (if_neg h38_1), (if_pos h38_2)]
      exact hret _ ((k_X4_readsWard F R fr n c 1).2.1, (k_X4_readsWard F R fr n c 1).2.2) _ _ _ _ dX4_readsSpot_125 (jz_z01 rd_01).1 ⟨by rw [hk9], by rw [hk9], by rw [hk9]⟩ hP hS
    refine jz_sub (P := cdx (F 12) n fr (R 29) = 119) (fun h38_3 => ?_) (fun h38_3 => ?_)
    · refine jz_look (tgt := 108) C dX4_readsSpot_38 (by decide) (by omega) (by first | (rw [h38_3]; done) | (rw [h38_3]; rfl)) (by decide) ?_
      refine lv_aload_n hx hb dX4_readsSpot_108 rfl (lv_at hl 0 rfl) ?_
      refine lv_iload_n hx hb dX4_readsSpot_109 rfl (lv_at hl 1 rfl) ?_
      refine lv_iload_n hx hb dX4_readsSpot_110 rfl (lv_at hl 2 rfl) ?_
      refine lv_iload_n hx hb dX4_readsSpot_111 rfl (lv_at hl 3 rfl) ?_
      refine jz_const C dX4_readsSpot_112 ?_
      refine jw_V C hl.1 (jpreV hE hP 4 0 rfl rfl) (c_X4_readsWard (A := A) (jDM hD) fr n c 0 hBX (hlt (by omega)) (show 0 ≤ c ∧ c < 24 from (by omega)) (show 0 ≤ 0 ∧ 0 ≤ 2 from (by omega))) (cwV 4 C.2.2.2.2 gX4_readsSpot_X4_readsWard rfl rfl rfl (by decide +kernel) ⟨Nat.le_of_ble_eq_true rfl, Nat.le_of_ble_eq_true rfl⟩) (As := [.int (iI (fr)), .int (iI (n)), .int (iI (c)), .int (iI (0))]) (hn := rfl) (hst := rfl) (rest := []) (hW := Nat.le_of_ble_eq_true rfl) (hdg := dX4_readsSpot_113) (hf := ⟨Nat.le_of_ble_eq_true rfl, Nat.le_of_ble_eq_true rfl⟩) hS (fun v9 uq113 H lc hq9 hP hS => ?_)
      obtain ⟨F113, R113⟩ := uq113
      obtain ⟨hv9, hI9, hR9⟩ := hq9
      subst hv9
      dsimp only at hI9 hR9
      subst hI9
      subst hR9
      have hP : va_P D vwCl (wM cI ad (k_X4_readsWard F R fr n c 0).2.1 (k_X4_readsWard F R fr n c 0).2.2) H := hP
      have hk9 : k_X4_readsSpot F R fr n c = ((k_X4_readsWard F R fr n c 0).1, (k_X4_readsWard F R fr n c 0).2.1, (k_X4_readsWard F R fr n c 0).2.2) := by rw [k_X4_readsSpot, (if_neg (h6)), (if_neg h38_0), (if_neg h38_1), (if_neg h38_2), (if_pos h38_3)]
      exact hret _ ((k_X4_readsWard F R fr n c 0).2.1, (k_X4_readsWard F R fr n c 0).2.2) _ _ _ _ dX4_readsSpot_116 (jz_z01 rd_01).1 ⟨by rw [hk9], by rw [hk9], by rw [hk9]⟩ hP hS
    refine jz_sub (P := cdx (F 12) n fr (R 29) = 120) (fun h38_4 => ?_) (fun h38_4 => ?_)
    · refine jz_look (tgt := 100) C dX4_readsSpot_38 (by decide) (by omega) (by first | (rw [h38_4]; done) | (rw [h38_4]; rfl)) (by decide) ?_
      refine lv_aload_n hx hb dX4_readsSpot_100 rfl (lv_at hl 0 rfl) ?_
      refine lv_iload_n hx hb dX4_readsSpot_101 rfl (lv_at hl 1 rfl) ?_
      refine lv_iload_n hx hb dX4_readsSpot_102 rfl (lv_at hl 2 rfl) ?_
      refine lv_iload_n hx hb dX4_readsSpot_103 rfl (lv_at hl 3 rfl) ?_
      refine jw_V C hl.1 (jpreV hE hP 4 0 rfl rfl) (c_X4_readsWork (A := A) (jDM hD) fr n c hBX (hlt (by omega)) (show 0 ≤ c ∧ c < 24 from (by omega))) (cwV 3 C.2.2.2.2 gX4_readsSpot_X4_readsWork rfl rfl rfl (by decide +kernel) ⟨Nat.le_of_ble_eq_true rfl, Nat.le_of_ble_eq_true rfl⟩) (As := [.int (iI (fr)), .int (iI (n)), .int (iI (c))]) (hn := rfl) (hst := rfl) (rest := []) (hW := Nat.le_of_ble_eq_true rfl) (hdg := dX4_readsSpot_104) (hf := ⟨Nat.le_of_ble_eq_true rfl, Nat.le_of_ble_eq_true rfl⟩) hS (fun v9 uq104 H lc hq9 hP hS => ?_)
      obtain ⟨F104, R104⟩ := uq104
      obtain ⟨hv9, hI9, hR9⟩ := hq9
      subst hv9
      dsimp only at hI9 hR9
      subst hI9
      subst hR9
      have hP : va_P D vwCl (wM cI ad (k_X4_readsWork F R fr n c).2.1 (k_X4_readsWork F R fr n c).2.2) H := hP
      have hk9 : k_X4_readsSpot F R fr n c = ((k_X4_readsWork F R fr n c).1, (k_X4_readsWork F R fr n c).2.1, (k_X4_readsWork F R fr n c).2.2) := by rw [k_X4_readsSpot, (if_neg (h6)), (if_neg h38_0), (if_neg h38_1), (if_neg h38_2), (if_neg h38_3), (if_pos h38_4)]
      exact hret _ ((k_X4_readsWork F R fr n c).2.1, (k_X4_readsWork F R fr n c).2.2) _ _ _ _ dX4_readsSpot_107 (jz_z01 rk_01).1 ⟨by rw [hk9], by rw [hk9], by rw [hk9]⟩ hP hS
    refine jz_look (tgt := 135) C dX4_readsSpot_38 (by decide) (by omega) (by show Op.lookupswitch.offset [(46, 50), (102, 88), (114, 79), (119, 70), (120, 62)] (97) _ = 97; rw [Op.lookupswitch.offset_cons, if_neg (Ne.symm h38_0), Op.lookupswitch.offset_cons, if_neg (Ne.symm h38_1), Op.lookupswitch.offset_cons, if_neg (Ne.symm h38_2), Op.lookupswitch.offset_cons, if_neg (Ne.symm h38_3), Op.lookupswitch.offset_cons, if_neg (Ne.symm h38_4)]; rfl) (by decide) ?_
    refine jz_const C dX4_readsSpot_135 ?_
    have hk9 : k_X4_readsSpot F R fr n c = (0, F, R) := by rw [k_X4_readsSpot, (if_neg (h6)), (if_neg h38_0), (if_neg h38_1), (if_neg h38_2), (if_neg h38_3), (if_neg h38_4)]
    exact hret _ (F, R) _ _ _ _ dX4_readsSpot_136 (by decide +kernel) ⟨by rw [hk9], by rw [hk9], by rw [hk9]⟩ hP hS
  · skip
    refine lv_aload_n hx hb dX4_readsSpot_9 rfl (lv_at hl 0 rfl) ?_
    refine lv_iload_n hx hb dX4_readsSpot_10 rfl (lv_at hl 1 rfl) ?_
    refine lv_iload_n hx hb dX4_readsSpot_11 rfl (lv_at hl 2 rfl) ?_
    refine jc_V C hl.1 (jpreV hE hP 4 0 rfl rfl) (c_X4_codeAt fr n (show 0 ≤ (F 12) from (by omega)) hfr hT (show (F 12) ≤ 240 from (by omega))) (cwV 2 C.2.2.2.2 gX4_readsSpot_X4_codeAt rfl rfl rfl (by decide +kernel) ⟨Nat.le_of_ble_eq_true rfl, Nat.le_of_ble_eq_true rfl⟩) (As := [.int (iI (fr)), .int (iI (n))]) (v := .int (iI (cdx (F 12) n fr (R 29)))) (hn := rfl) (hst := rfl) (rest := []) (hW := Nat.le_of_ble_eq_true rfl) (hdg := dX4_readsSpot_12) (hf := ⟨Nat.le_of_ble_eq_true rfl, Nat.le_of_ble_eq_true rfl⟩) ?_
    refine jz_bipush C dX4_readsSpot_15 (by decide +kernel) ?_
    refine jz_icmp_eq (tgt := 22) C dX4_readsSpot_17 (by decide) (by omega) (fun h17 => ?_) (fun h17 => ?_)
    · skip
      have hlt0 := cdx_lt (p := F 12) (n := n) (fr := fr) (T := R 29) (by rw [h17]; decide)
      refine lv_aload_n hx hb dX4_readsSpot_22 rfl (lv_at hl 0 rfl) ?_
      refine lv_dup hx hb dX4_readsSpot_23 rfl ?_
      refine fg_M_readAt C hin4 hE hP (v := F 12) (List.mem_of_getElem? (i := 2) rfl) dX4_readsSpot_24 rfl ?_
      refine jz_const C dX4_readsSpot_27 ?_
      refine jz_iadd C dX4_readsSpot_28 ?_
      refine fp_M_readAt C hin4 hE hP (jDM hD) hS (List.mem_of_getElem? (i := 2) rfl) dX4_readsSpot_29 (fun H lc hP hS => ?_)
      have hcr := cdx_rng (p := (F 12) + 1) (n := n) (fr := fr) (by omega) hfr hT
      have hlt : ¬ cdx ((F 12) + 1) n fr (R 29) = -9 → (F 12) + 1 < n := cdx_lt
      have hBX : BM (u1 F 12 ((F 12) + 1)) R n fr := by first | exact hB | exact ⟨⟨by show 0 ≤ F 12 + 1; omega, by show F 12 + 1 ≤ n; omega⟩, hB.2⟩
      refine lv_aload_n hx hb dX4_readsSpot_32 rfl (lv_at hl 0 rfl) ?_
      refine lv_iload_n hx hb dX4_readsSpot_33 rfl (lv_at hl 1 rfl) ?_
      refine lv_iload_n hx hb dX4_readsSpot_34 rfl (lv_at hl 2 rfl) ?_
      refine jc_V C hl.1 (jpreV hE hP 4 0 rfl rfl) (c_X4_codeAt fr n (show 0 ≤ ((F 12) + 1) from (by omega)) hfr hT (show ((F 12) + 1) ≤ 240 from (by omega))) (cwV 2 C.2.2.2.2 gX4_readsSpot_X4_codeAt rfl rfl rfl (by decide +kernel) ⟨Nat.le_of_ble_eq_true rfl, Nat.le_of_ble_eq_true rfl⟩) (As := [.int (iI (fr)), .int (iI (n))]) (v := .int (iI (cdx ((F 12) + 1) n fr (R 29)))) (hn := rfl) (hst := rfl) (rest := []) (hW := Nat.le_of_ble_eq_true rfl) (hdg := dX4_readsSpot_35) (hf := ⟨Nat.le_of_ble_eq_true rfl, Nat.le_of_ble_eq_true rfl⟩) ?_
      refine jz_sub (P := cdx ((F 12) + 1) n fr (R 29) = 46) (fun h38_0 => ?_) (fun h38_0 => ?_)
      · refine jz_look (tgt := 88) C dX4_readsSpot_38 (by decide) (by omega) (by first | (rw [h38_0]; done) | (rw [h38_0]; rfl)) (by decide) ?_
        refine lv_aload_n hx hb dX4_readsSpot_88 rfl (lv_at hl 0 rfl) ?_
        refine lv_dup hx hb dX4_readsSpot_89 rfl ?_
        refine fg_M_readAt C hin4 hE hP (v := (F 12) + 1) (List.mem_of_getElem? (i := 2) rfl) dX4_readsSpot_90 rfl ?_
        refine jz_const C dX4_readsSpot_93 ?_
        refine jz_iadd C dX4_readsSpot_94 ?_
        refine fp_M_readAt C hin4 hE hP (jDM hD) hS (List.mem_of_getElem? (i := 2) rfl) dX4_readsSpot_95 (fun H lc hP hS => ?_)
        refine jz_const C dX4_readsSpot_98 ?_
        have hk9 : k_X4_readsSpot F R fr n c = (1, (u1 (u1 F 12 ((F 12) + 1)) 12 (((F 12) + 1) + 1)), R) := by rw [k_X4_readsSpot, (if_pos h6), (if_pos h17), (if_pos h38_0)]
        exact hret _ ((u1 (u1 F 12 ((F 12) + 1)) 12 (((F 12) + 1) + 1)), R) _ _ _ _ dX4_readsSpot_99 (by decide +kernel) ⟨by rw [hk9], by rw [hk9], by rw [hk9]⟩ hP hS
      refine jz_sub (P := cdx ((F 12) + 1) n fr (R 29) = 102) (fun h38_1 => ?_) (fun h38_1 => ?_)
      · refine jz_look (tgt := 126) C dX4_readsSpot_38 (by decide) (by omega) (by first | (rw [h38_1]; done) | (rw [h38_1]; rfl)) (by decide) ?_
        refine lv_aload_n hx hb dX4_readsSpot_126 rfl (lv_at hl 0 rfl) ?_
        refine lv_iload_n hx hb dX4_readsSpot_127 rfl (lv_at hl 1 rfl) ?_
        refine lv_iload_n hx hb dX4_readsSpot_128 rfl (lv_at hl 2 rfl) ?_
        refine lv_iload_n hx hb dX4_readsSpot_129 rfl (lv_at hl 3 rfl) ?_
        refine jz_const C dX4_readsSpot_130 ?_
        refine jw_V C hl.1 (jpreV hE hP 4 0 rfl rfl) (c_X4_readsWard (A := A) (jDM hD) fr n c 2 hBX (hlt (by omega)) (show 0 ≤ c ∧ c < 24 from (by omega)) (show 0 ≤ 2 ∧ 2 ≤ 2 from (by omega))) (cwV 4 C.2.2.2.2 gX4_readsSpot_X4_readsWard rfl rfl rfl (by decide +kernel) ⟨Nat.le_of_ble_eq_true rfl, Nat.le_of_ble_eq_true rfl⟩) (As := [.int (iI (fr)), .int (iI (n)), .int (iI (c)), .int (iI (2))]) (hn := rfl) (hst := rfl) (rest := []) (hW := Nat.le_of_ble_eq_true rfl) (hdg := dX4_readsSpot_131) (hf := ⟨Nat.le_of_ble_eq_true rfl, Nat.le_of_ble_eq_true rfl⟩) hS (fun v9 uq131 H lc hq9 hP hS => ?_)
        obtain ⟨F131, R131⟩ := uq131
        obtain ⟨hv9, hI9, hR9⟩ := hq9
        subst hv9
        dsimp only at hI9 hR9
        subst hI9
        subst hR9
        have hP : va_P D vwCl (wM cI ad (k_X4_readsWard (u1 F 12 ((F 12) + 1)) R fr n c 2).2.1 (k_X4_readsWard (u1 F 12 ((F 12) + 1)) R fr n c 2).2.2) H := hP
        have hk9 : k_X4_readsSpot F R fr n c = ((k_X4_readsWard (u1 F 12 ((F 12) + 1)) R fr n c 2).1, (k_X4_readsWard (u1 F 12 ((F 12) + 1)) R fr n c 2).2.1, (k_X4_readsWard (u1 F 12 ((F 12) + 1)) R fr n c 2).2.2) := by rw [k_X4_readsSpot, (if_pos h6), (if_pos h17), (if_neg h38_0), (if_pos h38_1)]
        exact hret _ ((k_X4_readsWard (u1 F 12 ((F 12) + 1)) R fr n c 2).2.1, (k_X4_readsWard (u1 F 12 ((F 12) + 1)) R fr n c 2).2.2) _ _ _ _ dX4_readsSpot_134 (jz_z01 rd_01).1 ⟨by rw [hk9], by rw [hk9], by rw [hk9]⟩ hP hS
      refine jz_sub (P := cdx ((F 12) + 1) n fr (R 29) = 114) (fun h38_2 => ?_) (fun h38_2 => ?_)
      · refine jz_look (tgt := 117) C dX4_readsSpot_38 (by decide) (by omega) (by first | (rw [h38_2]; done) | (rw [h38_2]; rfl)) (by decide) ?_
        refine lv_aload_n hx hb dX4_readsSpot_117 rfl (lv_at hl 0 rfl) ?_
        refine lv_iload_n hx hb dX4_readsSpot_118 rfl (lv_at hl 1 rfl) ?_
        refine lv_iload_n hx hb dX4_readsSpot_119 rfl (lv_at hl 2 rfl) ?_
        refine lv_iload_n hx hb dX4_readsSpot_120 rfl (lv_at hl 3 rfl) ?_
        refine jz_const C dX4_readsSpot_121 ?_
        refine jw_V C hl.1 (jpreV hE hP 4 0 rfl rfl) (c_X4_readsWard (A := A) (jDM hD) fr n c 1 hBX (hlt (by omega)) (show 0 ≤ c ∧ c < 24 from (by omega)) (show 0 ≤ 1 ∧ 1 ≤ 2 from (by omega))) (cwV 4 C.2.2.2.2 gX4_readsSpot_X4_readsWard rfl rfl rfl (by decide +kernel) ⟨Nat.le_of_ble_eq_true rfl, Nat.le_of_ble_eq_true rfl⟩) (As := [.int (iI (fr)), .int (iI (n)), .int (iI (c)), .int (iI (1))]) (hn := rfl) (hst := rfl) (rest := []) (hW := Nat.le_of_ble_eq_true rfl) (hdg := dX4_readsSpot_122) (hf := ⟨Nat.le_of_ble_eq_true rfl, Nat.le_of_ble_eq_true rfl⟩) hS (fun v9 uq122 H lc hq9 hP hS => ?_)
        obtain ⟨F122, R122⟩ := uq122
        obtain ⟨hv9, hI9, hR9⟩ := hq9
        subst hv9
        dsimp only at hI9 hR9
        subst hI9
        subst hR9
        have hP : va_P D vwCl (wM cI ad (k_X4_readsWard (u1 F 12 ((F 12) + 1)) R fr n c 1).2.1 (k_X4_readsWard (u1 F 12 ((F 12) + 1)) R fr n c 1).2.2) H := hP
        have hk9 : k_X4_readsSpot F R fr n c = ((k_X4_readsWard (u1 F 12 ((F 12) + 1)) R fr n c 1).1, (k_X4_readsWard (u1 F 12 ((F 12) + 1)) R fr n c 1).2.1, (k_X4_readsWard (u1 F 12 ((F 12) + 1)) R fr n c 1).2.2) := by rw [k_X4_readsSpot, (if_pos h6), (if_pos h17), (if_neg h38_0), (if_neg h38_1), (if_pos h38_2)]
        exact hret _ ((k_X4_readsWard (u1 F 12 ((F 12) + 1)) R fr n c 1).2.1, (k_X4_readsWard (u1 F 12 ((F 12) + 1)) R fr n c 1).2.2) _ _ _ _ dX4_readsSpot_125 (jz_z01 rd_01).1 ⟨by rw [hk9], by rw [hk9], by rw [hk9]⟩ hP hS
      refine jz_sub (P := cdx ((F 12) + 1) n fr (R 29) = 119) (fun h38_3 => ?_) (fun h38_3 => ?_)
      · refine jz_look (tgt := 108) C dX4_readsSpot_38 (by decide) (by omega) (by first | (rw [h38_3]; done) | (rw [h38_3]; rfl)) (by decide) ?_
        refine lv_aload_n hx hb dX4_readsSpot_108 rfl (lv_at hl 0 rfl) ?_
        refine lv_iload_n hx hb dX4_readsSpot_109 rfl (lv_at hl 1 rfl) ?_
        refine lv_iload_n hx hb dX4_readsSpot_110 rfl (lv_at hl 2 rfl) ?_
        refine lv_iload_n hx hb dX4_readsSpot_111 rfl (lv_at hl 3 rfl) ?_
        refine jz_const C dX4_readsSpot_112 ?_
        refine jw_V C hl.1 (jpreV hE hP 4 0 rfl rfl) (c_X4_readsWard (A := A) (jDM hD) fr n c 0 hBX (hlt (by omega)) (show 0 ≤ c ∧ c < 24 from (by omega)) (show 0 ≤ 0 ∧ 0 ≤ 2 from (by omega))) (cwV 4 C.2.2.2.2 gX4_readsSpot_X4_readsWard rfl rfl rfl (by decide +kernel) ⟨Nat.le_of_ble_eq_true rfl, Nat.le_of_ble_eq_true rfl⟩) (As := [.int (iI (fr)), .int (iI (n)), .int (iI (c)), .int (iI (0))]) (hn := rfl) (hst := rfl) (rest := []) (hW := Nat.le_of_ble_eq_true rfl) (hdg := dX4_readsSpot_113) (hf := ⟨Nat.le_of_ble_eq_true rfl, Nat.le_of_ble_eq_true rfl⟩) hS (fun v9 uq113 H lc hq9 hP hS => ?_)
        obtain ⟨F113, R113⟩ := uq113
        obtain ⟨hv9, hI9, hR9⟩ := hq9
        subst hv9
        dsimp only at hI9 hR9
        subst hI9
        subst hR9
        have hP : va_P D vwCl (wM cI ad (k_X4_readsWard (u1 F 12 ((F 12) + 1)) R fr n c 0).2.1 (k_X4_readsWard (u1 F 12 ((F 12) + 1)) R fr n c 0).2.2) H := hP
        have hk9 : k_X4_readsSpot F R fr n c = ((k_X4_readsWard (u1 F 12 ((F 12) + 1)) R fr n c 0).1, (k_X4_readsWard (u1 F 12 ((F 12) + 1)) R fr n c 0).2.1, (k_X4_readsWard (u1 F 12 ((F 12) + 1)) R fr n c 0).2.2) := by rw [k_X4_readsSpot, (if_pos h6), (if_pos h17), (if_neg h38_0), (if_neg h38_1), (if_neg h38_2), (if_pos h38_3)]
        exact hret _ ((k_X4_readsWard (u1 F 12 ((F 12) + 1)) R fr n c 0).2.1, (k_X4_readsWard (u1 F 12 ((F 12) + 1)) R fr n c 0).2.2) _ _ _ _ dX4_readsSpot_116 (jz_z01 rd_01).1 ⟨by rw [hk9], by rw [hk9], by rw [hk9]⟩ hP hS
      refine jz_sub (P := cdx ((F 12) + 1) n fr (R 29) = 120) (fun h38_4 => ?_) (fun h38_4 => ?_)
      · refine jz_look (tgt := 100) C dX4_readsSpot_38 (by decide) (by omega) (by first | (rw [h38_4]; done) | (rw [h38_4]; rfl)) (by decide) ?_
        refine lv_aload_n hx hb dX4_readsSpot_100 rfl (lv_at hl 0 rfl) ?_
        refine lv_iload_n hx hb dX4_readsSpot_101 rfl (lv_at hl 1 rfl) ?_
        refine lv_iload_n hx hb dX4_readsSpot_102 rfl (lv_at hl 2 rfl) ?_
        refine lv_iload_n hx hb dX4_readsSpot_103 rfl (lv_at hl 3 rfl) ?_
        refine jw_V C hl.1 (jpreV hE hP 4 0 rfl rfl) (c_X4_readsWork (A := A) (jDM hD) fr n c hBX (hlt (by omega)) (show 0 ≤ c ∧ c < 24 from (by omega))) (cwV 3 C.2.2.2.2 gX4_readsSpot_X4_readsWork rfl rfl rfl (by decide +kernel) ⟨Nat.le_of_ble_eq_true rfl, Nat.le_of_ble_eq_true rfl⟩) (As := [.int (iI (fr)), .int (iI (n)), .int (iI (c))]) (hn := rfl) (hst := rfl) (rest := []) (hW := Nat.le_of_ble_eq_true rfl) (hdg := dX4_readsSpot_104) (hf := ⟨Nat.le_of_ble_eq_true rfl, Nat.le_of_ble_eq_true rfl⟩) hS (fun v9 uq104 H lc hq9 hP hS => ?_)
        obtain ⟨F104, R104⟩ := uq104
        obtain ⟨hv9, hI9, hR9⟩ := hq9
        subst hv9
        dsimp only at hI9 hR9
        subst hI9
        subst hR9
        have hP : va_P D vwCl (wM cI ad (k_X4_readsWork (u1 F 12 ((F 12) + 1)) R fr n c).2.1 (k_X4_readsWork (u1 F 12 ((F 12) + 1)) R fr n c).2.2) H := hP
        have hk9 : k_X4_readsSpot F R fr n c = ((k_X4_readsWork (u1 F 12 ((F 12) + 1)) R fr n c).1, (k_X4_readsWork (u1 F 12 ((F 12) + 1)) R fr n c).2.1, (k_X4_readsWork (u1 F 12 ((F 12) + 1)) R fr n c).2.2) := by rw [k_X4_readsSpot, (if_pos h6), (if_pos h17), (if_neg h38_0), (if_neg h38_1), (if_neg h38_2), (if_neg h38_3), (if_pos h38_4)]
        exact hret _ ((k_X4_readsWork (u1 F 12 ((F 12) + 1)) R fr n c).2.1, (k_X4_readsWork (u1 F 12 ((F 12) + 1)) R fr n c).2.2) _ _ _ _ dX4_readsSpot_107 (jz_z01 rk_01).1 ⟨by rw [hk9], by rw [hk9], by rw [hk9]⟩ hP hS
      refine jz_look (tgt := 135) C dX4_readsSpot_38 (by decide) (by omega) (by show Op.lookupswitch.offset [(46, 50), (102, 88), (114, 79), (119, 70), (120, 62)] (97) _ = 97; rw [Op.lookupswitch.offset_cons, if_neg (Ne.symm h38_0), Op.lookupswitch.offset_cons, if_neg (Ne.symm h38_1), Op.lookupswitch.offset_cons, if_neg (Ne.symm h38_2), Op.lookupswitch.offset_cons, if_neg (Ne.symm h38_3), Op.lookupswitch.offset_cons, if_neg (Ne.symm h38_4)]; rfl) (by decide) ?_
      refine jz_const C dX4_readsSpot_135 ?_
      have hk9 : k_X4_readsSpot F R fr n c = (0, (u1 F 12 ((F 12) + 1)), R) := by rw [k_X4_readsSpot, (if_pos h6), (if_pos h17), (if_neg h38_0), (if_neg h38_1), (if_neg h38_2), (if_neg h38_3), (if_neg h38_4)]
      exact hret _ ((u1 F 12 ((F 12) + 1)), R) _ _ _ _ dX4_readsSpot_136 (by decide +kernel) ⟨by rw [hk9], by rw [hk9], by rw [hk9]⟩ hP hS
    · skip
      refine jz_const C dX4_readsSpot_20 ?_
      have hk9 : k_X4_readsSpot F R fr n c = (0, F, R) := by rw [k_X4_readsSpot, (if_pos h6), (if_neg (h17))]
      exact hret _ (F, R) _ _ _ _ dX4_readsSpot_21 (by decide +kernel) ⟨by rw [hk9], by rw [hk9], by rw [hk9]⟩ hP hS
