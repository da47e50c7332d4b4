theorem jz_orz (a : Int) : iI a ||| iI 0 = iI a := by
  rw [show iI 0 = 0 from rfl]
  exact Int32.or_zero
/-- cells set to nothing -/
def zb (T : Nat → Int) (b c : Nat) : Nat → Int := fun j => if b ≤ j ∧ j < b + c then 0 else T j
theorem zb_0 {T : Nat → Int} {b : Nat} : zb T b 0 = T := by funext j; unfold zb; rw [if_neg (by omega)]
theorem zb_s {T : Nat → Int} {b c k : Nat} (hk : k = b + c) : u1 (zb T b c) k 0 = zb T b (c + 1) := by
  funext j
  unfold u1 zb
  by_cases h : j = k
  · rw [if_pos h, if_pos (by omega)]
  · rw [if_neg h]
    by_cases h2 : b ≤ j ∧ j < b + c
    · rw [if_pos h2, if_pos (by omega)]
    · rw [if_neg h2, if_neg (by omega)]
theorem cpz_0 {f g : Nat → Int} {a b : Nat} : cpz f g a b 0 = g := by funext j; unfold cpz; rw [if_neg (by omega)]
theorem cpz_s {f g : Nat → Int} {a b c k x : Nat} (hk : k = b + c) (hx : x = a + c) : u1 (cpz f g a b c) k (f x) = cpz f g a b (c + 1) := by
  funext j
  unfold u1 cpz
  by_cases h : j = k
  · rw [if_pos h, if_pos (by omega), show a + (j - b) = x by omega]
  · rw [if_neg h]
    by_cases h2 : b ≤ j ∧ j < b + c
    · rw [if_pos h2, if_pos (by omega)]
    · rw [if_neg h2, if_neg (by omega)]
theorem cpz_lcd {T f g : Nat → Int} {a b n : Nat} : cpz (lcd T f a n) g 0 b n = cpz f g a b n := by
  funext j
  unfold cpz lcd
  by_cases h : b ≤ j ∧ j < b + n
  · rw [if_pos h, if_pos h, if_pos (by omega), show a + (0 + (j - b)) = a + (j - b) by omega]
  · rw [if_neg h, if_neg h]
/-- what taking cells is refused with -/
def ftm (sz ln al i n : Int) : Int := if sz < 0 then 1 else if ln = al then (if n < 0 then 4 else if 0 ≤ i ∧ 0 ≤ n ∧ i + n ≤ sz then 0 else 3) else 2
theorem ftm_0 {sz ln al i n : Int} (h : ftm sz ln al i n = 0) : 0 ≤ sz ∧ ln = al ∧ 0 ≤ i ∧ 0 ≤ n ∧ i + n ≤ sz := by
  unfold ftm at h
  split at h
  · omega
  · split at h
    · split at h
      · omega
      · split at h
        · omega
        · omega
    · omega
theorem ftm_bd {sz ln al i n : Int} : 0 ≤ ftm sz ln al i n ∧ ftm sz ln al i n ≤ 4 := by
  unfold ftm
  repeat' split
  all_goals omega
theorem av_b {f : Nat → Int} {w : Nat} {P : Prop} [Decidable P] (h : P ∧ av f w = true) : (P ∧ av f (w + 1) = true) ↔ (0 ≤ f w ∧ f w ≤ 3) := by
  simp [av, h.1, h.2]
theorem ite9 {P Q : Prop} [Decidable P] [Decidable Q] (h : P ↔ Q) : (if P then (1 : Int) else 0) = if Q then 1 else 0 := by
  by_cases hp : P
  · rw [if_pos hp, if_pos (h.mp hp)]
  · rw [if_neg hp, if_neg (fun q => hp (h.mpr q))]
def k_X4_settings (F : Nat → Int) (R : Nat → Nat → Int) (w : Int) : Int × (Nat → Int) × (Nat → Nat → Int) := if w < (-1) then ((-1, F, R)) else (if (F 1) = 0 then ((-3, F, R)) else (if w < 0 then ((cn (fun y9 : Nat => aM F (wt F R (y9 : Int)) (Int.toNat (F 24))) (2 ^ (Int.toNat (2 * F 3))), F, R)) else (if (fi (fun y9 : Nat => aM F (wt F R (y9 : Int)) (Int.toNat (F 24))) (2 ^ (Int.toNat (2 * F 3)))) < 0 then ((-9, F, R)) else (if ¬ (0 ≤ w ∧ w ≤ (F 3) - 1) then ((-9, F, R)) else ((vz (F 3) (fi (fun y9 : Nat => aM F (wt F R (y9 : Int)) (Int.toNat (F 24))) (2 ^ (Int.toNat (2 * F 3)))) w, F, R))))))
abbrev rm_X4_settings : Room := { frames := 3, cells := 0, slots := 0, locals := 74 }
set_option maxHeartbeats 4000000 in
set_option maxRecDepth 100000 in
theorem c_X4_settings {l : Launch} {D : va_G} {cI cS : ClassId} {ad : Nat → Nat} {F : Nat → Int} {R : Nat → Nat → Int} {A : Nat → Prop} (hD : va_D A (wM cI ad F R))  (w : Int)  (hS9 : MV F R) (hr_w : -2147483648 ≤ w ∧ w < 2147483648): JV l yX4_settings wsX4_settings rm_X4_settings (jB D cI cS (wM cI ad F R)) A [.ref (ad 0), .int (iI (w))] (fun v9 (u9 : (Nat → Int) × (Nat → Nat → Int)) => v9 = some (.int (iI (k_X4_settings F R w).1)) ∧ u9.1 = (k_X4_settings F R w).2.1 ∧ u9.2 = (k_X4_settings F R w).2.2) (fun u9 H => va_P D vwCl (wM cI ad u9.1 u9.2) H) := by
  refine JV.mkI rfl (by decide +kernel) rfl (Nat.le_of_ble_eq_true rfl) ?_
  intro p e st mi ar bl mth cd Q ls C hB hl hret
  obtain ⟨hE, hP⟩ := hB
  have hx := C.1
  have hb := C.2.1
  have hl : lv_has ls 6 [(0, .ref (ad 0)), (1, .int (iI (w)))] := hl
  have hin4 : ∀ w ∈ wsX40, w ∈ wsX4_settings := fun _ h => List.mem_cons_of_mem _ (List.mem_append_right _ h)
  suffices hgo : ∀ (H : Heap) (lc : List Loc), va_P D vwCl (wM cI ad F R) H → va_S A st.heap H lc → W p l e rm_X4_settings st mi ar bl mth cd H lc 0 0 Q (F0 mi 0 ls []) from hgo _ _ hP va_S.rf
  clear hP
  intro H lc hP hS
  have hM := hS9.town
  have hW := hM.works
  have hK := hM.wards
  have hlaw := hM.law
  have hrd := hM.reads
  have hsp := hM.spots
  have hhi := hM.high
  have hwd := hM.wide
  have hP8 := pw8 hW
  have hen := en_bd4 hW hM.vane
  refine lv_iload_n hx hb dX4_settings_0 rfl (lv_at hl 1 rfl) ?_
  refine jz_const C dX4_settings_1 ?_
  refine jz_icmp_ge (tgt := 7) C dX4_settings_2 (by decide) (by omega) (fun h2 => ?_) (fun h2 => ?_)
  · skip
    refine lv_aload_n hx hb dX4_settings_7 rfl (lv_at hl 0 rfl) ?_
    refine fg_M_high C hin4 hE hP (v := F 1) (List.mem_of_getElem? (i := 1) rfl) dX4_settings_8 rfl ?_
    refine jz_if_ne (tgt := 17) C dX4_settings_11 (by decide) (by omega) (fun h11 => ?_) (fun h11 => ?_)
    · skip
      refine lv_aload_n hx hb dX4_settings_17 rfl (lv_at hl 0 rfl) ?_
      refine jc_V C hl.1 (jpreV hE hP 4 0 rfl rfl) (c_X4_vanesNow  (by first | exact hM | assumption)) (cwV 0 C.2.2.2.2 gX4_settings_X4_vanesNow rfl rfl rfl (by decide +kernel) ⟨Nat.le_of_ble_eq_true rfl, Nat.le_of_ble_eq_true rfl⟩) (As := []) (v := .int (iI (en (R 6) (Int.toNat (F 3))))) (hn := rfl) (hst := rfl) (rest := []) (hW := Nat.le_of_ble_eq_true rfl) (hdg := dX4_settings_18) (hf := ⟨Nat.le_of_ble_eq_true rfl, Nat.le_of_ble_eq_true rfl⟩) ?_
      refine lv_istore_n (lv' := [(2, .int (iI (en (R 6) (Int.toNat (F 3))))), (0, .ref (ad 0)), (1, .int (iI (w)))]) hx hb dX4_settings_21 rfl hl (by decide) rfl (fun ls hl => ?_)
      refine jz_const C dX4_settings_22 ?_
      refine lv_istore_n (lv' := [(3, .int (iI (0))), (2, .int (iI (en (R 6) (Int.toNat (F 3))))), (0, .ref (ad 0)), (1, .int (iI (w)))]) hx hb dX4_settings_23 rfl hl (by decide) rfl (fun ls hl => ?_)
      refine jz_bipush C dX4_settings_24 (by decide +kernel) ?_
      refine lv_istore (lv' := [(4, .int (iI (-9))), (3, .int (iI (0))), (2, .int (iI (en (R 6) (Int.toNat (F 3))))), (0, .ref (ad 0)), (1, .int (iI (w)))]) hx hb dX4_settings_26 hl (by decide) rfl (fun ls hl => ?_)
      refine jz_const C dX4_settings_28 ?_
      refine lv_istore (lv' := [(5, .int (iI (0))), (4, .int (iI (-9))), (3, .int (iI (0))), (2, .int (iI (en (R 6) (Int.toNat (F 3))))), (0, .ref (ad 0)), (1, .int (iI (w)))]) hx hb dX4_settings_29 hl (by decide) rfl (fun ls hl => ?_)
      have hpw := pwN (Int.toNat (2 * F 3))
      have key31 : ∀ (n31 : Nat) (t : Nat) (s : Int) (ht : (t : Int) ≤ (2 ^ (Int.toNat (2 * F 3)))), ((2 ^ (Int.toNat (2 * F 3))) - (t : Int) : Int) < n31 → ∀ (H : Heap) (lc : List Loc), va_P D vwCl (wM cI ad F (uR R 6 (tA (F 3) s (R 6)))) H → va_S A st.heap H lc → ∀ (ls : Array Slot), lv_has ls 6 [(5, .int (iI ((t : Int)))), (4, .int (iI (fi (fun y9 : Nat => aM F (wt F R (y9 : Int)) (Int.toNat (F 24))) t))), (3, .int (iI (cn (fun y9 : Nat => aM F (wt F R (y9 : Int)) (Int.toNat (F 24))) t))), (2, .int (iI (en (R 6) (Int.toNat (F 3))))), (0, .ref (ad 0)), (1, .int (iI (w)))] → W p l e rm_X4_settings st mi ar bl mth cd H lc 0 0 Q (F0 mi 31 ls []) := by
        intro n31
        induction n31 with
        | zero => intro t s ht hn9; exfalso; omega
        | succ n31 ih31 =>
          intro t s ht hn9 H lc hP hS ls hl
          have hpw := pwN (Int.toNat (2 * F 3))
          refine lv_iload hx hb dX4_settings_31 (lv_at hl 0 rfl) ?_
          refine lv_aload_n hx hb dX4_settings_33 rfl (lv_at hl 4 rfl) ?_
          refine jc_V C hl.1 (jpreV hE hP 4 0 rfl rfl) (c_X4_rows  hM.works) (cwV 0 C.2.2.2.2 gX4_settings_X4_rows rfl rfl rfl (by decide +kernel) ⟨Nat.le_of_ble_eq_true rfl, Nat.le_of_ble_eq_true rfl⟩) (As := []) (v := .int (iI (2 ^ (Int.toNat (2 * (F 3)))))) (hn := rfl) (hst := rfl) (rest := [.int (iI ((t : Int)))]) (hW := Nat.le_of_ble_eq_true rfl) (hdg := dX4_settings_34) (hf := ⟨Nat.le_of_ble_eq_true rfl, Nat.le_of_ble_eq_true rfl⟩) ?_
          refine jz_icmp_ge (tgt := 76) C dX4_settings_37 (by decide) (by omega) (fun h37 => ?_) (fun h37 => ?_)
          · skip
            have hg9 : t = 2 ^ (Int.toNat (2 * F 3)) := (by omega)
            subst hg9
            have hl : lv_has ls 6 [(4, .int (iI (fi (fun y9 : Nat => aM F (wt F R (y9 : Int)) (Int.toNat (F 24))) (2 ^ (Int.toNat (2 * F 3)))))), (3, .int (iI (cn (fun y9 : Nat => aM F (wt F R (y9 : Int)) (Int.toNat (F 24))) (2 ^ (Int.toNat (2 * F 3)))))), (2, .int (iI (en (R 6) (Int.toNat (F 3))))), (0, .ref (ad 0)), (1, .int (iI (w)))] := lv_sub hl [1, 2, 3, 4, 5] rfl
            refine lv_aload_n hx hb dX4_settings_76 rfl (lv_at hl 3 rfl) ?_
            refine lv_iload_n hx hb dX4_settings_77 rfl (lv_at hl 2 rfl) ?_
            refine jw_V C hl.1 (jpreV hE hP 4 0 rfl rfl) (c_X4_turnAll (A := A) (jDM hD) (en (R 6) (Int.toNat (F 3))) hM.works (show 0 ≤ (en (R 6) (Int.toNat (F 3))) ∧ (en (R 6) (Int.toNat (F 3))) < 256 from (by omega))) (cwV 1 C.2.2.2.2 gX4_settings_X4_turnAll rfl rfl rfl (by decide +kernel) ⟨Nat.le_of_ble_eq_true rfl, Nat.le_of_ble_eq_true rfl⟩) (As := [.int (iI (en (R 6) (Int.toNat (F 3))))]) (hn := rfl) (hst := rfl) (rest := []) (hW := Nat.le_of_ble_eq_true rfl) (hdg := dX4_settings_78) (hf := ⟨Nat.le_of_ble_eq_true rfl, Nat.le_of_ble_eq_true rfl⟩) hS (fun v9 uq78 H lc hq9 hP hS => ?_)
            subst hq9
            have hP : va_P D vwCl (wM cI ad F (uR (uR R 6 (tA (F 3) s (R 6))) 6 (tA (F 3) (en (R 6) (Int.toNat (F 3))) (tA (F 3) s (R 6))))) H := hP
            have hP : va_P D vwCl (wM cI ad F R) H := by rw [tA_tA, uR_u, show uR R 6 (tA (F 3) (en (R 6) (Int.toNat (F 3))) (R 6)) = R from wt_en hM] at hP; exact hP
            have hfi := fi_bd (P := (fun y9 : Nat => aM F (wt F R (y9 : Int)) (Int.toNat (F 24)))) (n := (2 ^ (Int.toNat (2 * F 3))))
            have hfi2 : fi (fun y9 : Nat => aM F (wt F R (y9 : Int)) (Int.toNat (F 24))) (2 ^ (Int.toNat (2 * F 3))) < 256 := by have h5 := hfi.2.1; split at h5 <;> omega
            refine lv_iload_n hx hb dX4_settings_81 rfl (lv_at hl 4 rfl) ?_
            refine jz_if_ge (tgt := 89) C dX4_settings_82 (by decide) (by omega) (fun h82 => ?_) (fun h82 => ?_)
            · skip
              refine lv_iload hx hb dX4_settings_89 (lv_at hl 0 rfl) ?_
              refine jz_if_lt (tgt := 102) C dX4_settings_91 (by decide) (by omega) (fun h91 => ?_) (fun h91 => ?_)
              · skip
                refine jz_bipush C dX4_settings_102 (by decide +kernel) ?_
                refine lv_goto (tgt := 114) hx hb dX4_settings_104 (by decide) ?_
                have hk9 : k_X4_settings F R w = (-9, F, R) := by rw [k_X4_settings, (if_neg (Int.not_lt.mpr h2)), (if_neg (h11)), (if_neg (Int.not_lt.mpr h82)), (if_pos h91)]
                exact hret _ (F, R) _ _ _ _ dX4_settings_114 ⟨by rw [hk9], by rw [hk9], by rw [hk9]⟩ hP hS
              · skip
                refine lv_aload_n hx hb dX4_settings_94 rfl (lv_at hl 3 rfl) ?_
                refine lv_iload_n hx hb dX4_settings_95 rfl (lv_at hl 4 rfl) ?_
                refine jc_V C hl.1 (jpreV hE hP 4 0 rfl rfl) (c_X4_noWork w hM.works (show -2147483648 ≤ w ∧ w < 2147483648 from (by omega))) (cwV 1 C.2.2.2.2 gX4_settings_X4_noWork rfl rfl rfl (by decide +kernel) ⟨Nat.le_of_ble_eq_true rfl, Nat.le_of_ble_eq_true rfl⟩) (As := [.int (iI (w))]) (v := .int (iI (if ¬ (0 ≤ w ∧ w ≤ (F 3) - 1) then 1 else 0))) (hn := rfl) (hst := rfl) (rest := []) (hW := Nat.le_of_ble_eq_true rfl) (hdg := dX4_settings_96) (hf := ⟨Nat.le_of_ble_eq_true rfl, Nat.le_of_ble_eq_true rfl⟩) ?_
                refine jz_bool_eq (tgt := 107) C dX4_settings_99 (by decide) (fun h99 => ?_) (fun h99 => ?_)
                · skip
                  refine lv_aload_n hx hb dX4_settings_107 rfl (lv_at hl 3 rfl) ?_
                  refine lv_iload hx hb dX4_settings_108 (lv_at hl 0 rfl) ?_
                  refine lv_iload_n hx hb dX4_settings_110 rfl (lv_at hl 4 rfl) ?_
                  refine jc_V C hl.1 (jpreV hE hP 4 0 rfl rfl) (c_X4_vaneIn (fi (fun y9 : Nat => aM F (wt F R (y9 : Int)) (Int.toNat (F 24))) (2 ^ (Int.toNat (2 * F 3)))) w hM.works (show 0 ≤ (fi (fun y9 : Nat => aM F (wt F R (y9 : Int)) (Int.toNat (F 24))) (2 ^ (Int.toNat (2 * F 3)))) ∧ (fi (fun y9 : Nat => aM F (wt F R (y9 : Int)) (Int.toNat (F 24))) (2 ^ (Int.toNat (2 * F 3)))) < 256 from (by omega)) (show 0 ≤ w ∧ w < (F 3) from (by omega))) (cwV 2 C.2.2.2.2 gX4_settings_X4_vaneIn rfl rfl rfl (by decide +kernel) ⟨Nat.le_of_ble_eq_true rfl, Nat.le_of_ble_eq_true rfl⟩) (As := [.int (iI (fi (fun y9 : Nat => aM F (wt F R (y9 : Int)) (Int.toNat (F 24))) (2 ^ (Int.toNat (2 * F 3))))), .int (iI (w))]) (v := .int (iI (vz (F 3) (fi (fun y9 : Nat => aM F (wt F R (y9 : Int)) (Int.toNat (F 24))) (2 ^ (Int.toNat (2 * F 3)))) w))) (hn := rfl) (hst := rfl) (rest := []) (hW := Nat.le_of_ble_eq_true rfl) (hdg := dX4_settings_111) (hf := ⟨Nat.le_of_ble_eq_true rfl, Nat.le_of_ble_eq_true rfl⟩) ?_
                  have hk9 : k_X4_settings F R w = (vz (F 3) (fi (fun y9 : Nat => aM F (wt F R (y9 : Int)) (Int.toNat (F 24))) (2 ^ (Int.toNat (2 * F 3)))) w, F, R) := by rw [k_X4_settings, (if_neg (Int.not_lt.mpr h2)), (if_neg (h11)), (if_neg (Int.not_lt.mpr h82)), (if_neg (Int.not_lt.mpr h91)), (if_neg h99)]
                  exact hret _ (F, R) _ _ _ _ dX4_settings_114 ⟨by rw [hk9], by rw [hk9], by rw [hk9]⟩ hP hS
                · skip
                  refine jz_bipush C dX4_settings_102 (by decide +kernel) ?_
                  refine lv_goto (tgt := 114) hx hb dX4_settings_104 (by decide) ?_
                  have hk9 : k_X4_settings F R w = (-9, F, R) := by rw [k_X4_settings, (if_neg (Int.not_lt.mpr h2)), (if_neg (h11)), (if_neg (Int.not_lt.mpr h82)), (if_neg (Int.not_lt.mpr h91)), (if_pos h99)]
                  exact hret _ (F, R) _ _ _ _ dX4_settings_114 ⟨by rw [hk9], by rw [hk9], by rw [hk9]⟩ hP hS
            · skip
              refine lv_iload_n hx hb dX4_settings_85 rfl (lv_at hl 1 rfl) ?_
              refine lv_goto (tgt := 114) hx hb dX4_settings_86 (by decide) ?_
              have hk9 : k_X4_settings F R w = (cn (fun y9 : Nat => aM F (wt F R (y9 : Int)) (Int.toNat (F 24))) (2 ^ (Int.toNat (2 * F 3))), F, R) := by rw [k_X4_settings, (if_neg (Int.not_lt.mpr h2)), (if_neg (h11)), (if_pos h82)]
              exact hret _ (F, R) _ _ _ _ dX4_settings_114 ⟨by rw [hk9], by rw [hk9], by rw [hk9]⟩ hP hS
          · skip
            refine lv_aload_n hx hb dX4_settings_40 rfl (lv_at hl 4 rfl) ?_
            refine lv_iload hx hb dX4_settings_41 (lv_at hl 0 rfl) ?_
            refine jw_V C hl.1 (jpreV hE hP 4 0 rfl rfl) (c_X4_turnAll (A := A) (jDM hD) (t : Int) hM.works (show 0 ≤ (t : Int) ∧ (t : Int) < 256 from (by omega))) (cwV 1 C.2.2.2.2 gX4_settings_X4_turnAll rfl rfl rfl (by decide +kernel) ⟨Nat.le_of_ble_eq_true rfl, Nat.le_of_ble_eq_true rfl⟩) (As := [.int (iI ((t : Int)))]) (hn := rfl) (hst := rfl) (rest := []) (hW := Nat.le_of_ble_eq_true rfl) (hdg := dX4_settings_43) (hf := ⟨Nat.le_of_ble_eq_true rfl, Nat.le_of_ble_eq_true rfl⟩) hS (fun v9 uq43 H lc hq9 hP hS => ?_)
            subst hq9
            have hP : va_P D vwCl (wM cI ad F (uR (uR R 6 (tA (F 3) s (R 6))) 6 (tA (F 3) (t : Int) (tA (F 3) s (R 6))))) H := hP
            have hP : va_P D vwCl (wM cI ad F (uR R 6 (tA (F 3) (t : Int) (R 6)))) H := by rw [uR_u, tA_tA] at hP; exact hP
            have hMt : MI F (uR R 6 (tA (F 3) (t : Int) (R 6))) := hM.wt
            have hcn := cn_bd (P := (fun y9 : Nat => aM F (wt F R (y9 : Int)) (Int.toNat (F 24)))) (n := t)
            have hfi := fi_bd (P := (fun y9 : Nat => aM F (wt F R (y9 : Int)) (Int.toNat (F 24)))) (n := t)
            have hfi2 : fi (fun y9 : Nat => aM F (wt F R (y9 : Int)) (Int.toNat (F 24))) t < 257 := by have h5 := hfi.2.1; split at h5 <;> omega
            refine lv_aload_n hx hb dX4_settings_46 rfl (lv_at hl 4 rfl) ?_
            refine jc_V C hl.1 (jpreV hE hP 4 0 rfl rfl) (c_X4_areSo  hMt) (cwV 0 C.2.2.2.2 gX4_settings_X4_areSo rfl rfl rfl (by decide +kernel) ⟨Nat.le_of_ble_eq_true rfl, Nat.le_of_ble_eq_true rfl⟩) (As := []) (v := .int (iI (if aM F (uR R 6 (tA (F 3) (t : Int) (R 6))) (Int.toNat (F 24)) = true then 1 else 0))) (hn := rfl) (hst := rfl) (rest := []) (hW := Nat.le_of_ble_eq_true rfl) (hdg := dX4_settings_47) (hf := ⟨Nat.le_of_ble_eq_true rfl, Nat.le_of_ble_eq_true rfl⟩) ?_
            refine jz_bool_eq (tgt := 70) C dX4_settings_50 (by decide) (fun h50 => ?_) (fun h50 => ?_)
            · skip
              refine jz_iinc (k := 0) (z := (t : Int) + 1) (lv' := [(5, .int (iI ((t : Int) + 1))), (4, .int (iI (fi (fun y9 : Nat => aM F (wt F R (y9 : Int)) (Int.toNat (F 24))) t))), (3, .int (iI (cn (fun y9 : Nat => aM F (wt F R (y9 : Int)) (Int.toNat (F 24))) t))), (2, .int (iI (en (R 6) (Int.toNat (F 3))))), (0, .ref (ad 0)), (1, .int (iI (w)))]) C dX4_settings_70 hl rfl rfl (by decide) rfl (fun ls hl => ?_)
              refine lv_goto (tgt := 31) hx hb dX4_settings_73 (by decide) ?_
              have hpw := pwN (Int.toNat (2 * F 3))
              have hl9 : lv_has ls 6 [(5, .int (iI ((t + 1 : Int)))), (4, .int (iI (fi (fun y9 : Nat => aM F (wt F R (y9 : Int)) (Int.toNat (F 24))) (t + 1)))), (3, .int (iI (cn (fun y9 : Nat => aM F (wt F R (y9 : Int)) (Int.toNat (F 24))) (t + 1)))), (2, .int (iI (en (R 6) (Int.toNat (F 3))))), (0, .ref (ad 0)), (1, .int (iI (w)))] := by
                rw [show (fi (fun y9 : Nat => aM F (wt F R (y9 : Int)) (Int.toNat (F 24))) (t + 1) : Int) = fi (fun y9 : Nat => aM F (wt F R (y9 : Int)) (Int.toNat (F 24))) t from by first | exact fi_t (P := (fun y9 : Nat => aM F (wt F R (y9 : Int)) (Int.toNat (F 24)))) (n := t) h50 | exact fi_f (P := (fun y9 : Nat => aM F (wt F R (y9 : Int)) (Int.toNat (F 24)))) (n := t) h50]
                rw [show (cn (fun y9 : Nat => aM F (wt F R (y9 : Int)) (Int.toNat (F 24))) (t + 1) : Int) = cn (fun y9 : Nat => aM F (wt F R (y9 : Int)) (Int.toNat (F 24))) t from by first | exact cn_t (P := (fun y9 : Nat => aM F (wt F R (y9 : Int)) (Int.toNat (F 24)))) (n := t) h50 | exact cn_f (P := (fun y9 : Nat => aM F (wt F R (y9 : Int)) (Int.toNat (F 24)))) (n := t) h50]
                exact lv_sub hl [0, 1, 2, 3, 4, 5] rfl
              exact ih31 (t + 1) (t : Int) (by omega) (by omega) _ _ hP hS ls hl9
            · skip
              refine jz_iinc (k := 2) (z := cn (fun y9 : Nat => aM F (wt F R (y9 : Int)) (Int.toNat (F 24))) t + 1) (lv' := [(3, .int (iI (cn (fun y9 : Nat => aM F (wt F R (y9 : Int)) (Int.toNat (F 24))) t + 1))), (5, .int (iI ((t : Int)))), (4, .int (iI (fi (fun y9 : Nat => aM F (wt F R (y9 : Int)) (Int.toNat (F 24))) t))), (2, .int (iI (en (R 6) (Int.toNat (F 3))))), (0, .ref (ad 0)), (1, .int (iI (w)))]) C dX4_settings_53 hl rfl rfl (by decide) rfl (fun ls hl => ?_)
              refine jz_cut (X := ∀ ls : Array Slot, lv_has ls 6 [(3, .int (iI (cn (fun y9 : Nat => aM F (wt F R (y9 : Int)) (Int.toNat (F 24))) t + 1))), (5, .int (iI ((t : Int)))), (4, .int (iI (fi (fun y9 : Nat => aM F (wt F R (y9 : Int)) (Int.toNat (F 24))) t))), (2, .int (iI (en (R 6) (Int.toNat (F 3))))), (0, .ref (ad 0)), (1, .int (iI (w)))] → W p l e rm_X4_settings st mi ar bl mth cd H lc 0 0 Q (F0 mi 68 ls [.int (iI (if fi (fun y9 : Nat => aM F (wt F R (y9 : Int)) (Int.toNat (F 24))) t < 0 then (t : Int) else fi (fun y9 : Nat => aM F (wt F R (y9 : Int)) (Int.toNat (F 24))) t))])) (fun ls hl => ?_) (fun hj56 => ?_)
              · skip
                refine lv_istore (lv' := [(4, .int (iI (if fi (fun y9 : Nat => aM F (wt F R (y9 : Int)) (Int.toNat (F 24))) t < 0 then (t : Int) else fi (fun y9 : Nat => aM F (wt F R (y9 : Int)) (Int.toNat (F 24))) t))), (3, .int (iI (cn (fun y9 : Nat => aM F (wt F R (y9 : Int)) (Int.toNat (F 24))) t + 1))), (5, .int (iI ((t : Int)))), (2, .int (iI (en (R 6) (Int.toNat (F 3))))), (0, .ref (ad 0)), (1, .int (iI (w)))]) hx hb dX4_settings_68 hl (by decide) rfl (fun ls hl => ?_)
                refine jz_iinc (k := 2) (z := (t : Int) + 1) (lv' := [(5, .int (iI ((t : Int) + 1))), (4, .int (iI (if fi (fun y9 : Nat => aM F (wt F R (y9 : Int)) (Int.toNat (F 24))) t < 0 then (t : Int) else fi (fun y9 : Nat => aM F (wt F R (y9 : Int)) (Int.toNat (F 24))) t))), (3, .int (iI (cn (fun y9 : Nat => aM F (wt F R (y9 : Int)) (Int.toNat (F 24))) t + 1))), (2, .int (iI (en (R 6) (Int.toNat (F 3))))), (0, .ref (ad 0)), (1, .int (iI (w)))]) C dX4_settings_70 hl rfl rfl (by decide) rfl (fun ls hl => ?_)
                refine lv_goto (tgt := 31) hx hb dX4_settings_73 (by decide) ?_
                have hpw := pwN (Int.toNat (2 * F 3))
                have hl9 : lv_has ls 6 [(5, .int (iI ((t + 1 : Int)))), (4, .int (iI (fi (fun y9 : Nat => aM F (wt F R (y9 : Int)) (Int.toNat (F 24))) (t + 1)))), (3, .int (iI (cn (fun y9 : Nat => aM F (wt F R (y9 : Int)) (Int.toNat (F 24))) (t + 1)))), (2, .int (iI (en (R 6) (Int.toNat (F 3))))), (0, .ref (ad 0)), (1, .int (iI (w)))] := by
                  rw [show (fi (fun y9 : Nat => aM F (wt F R (y9 : Int)) (Int.toNat (F 24))) (t + 1) : Int) = if fi (fun y9 : Nat => aM F (wt F R (y9 : Int)) (Int.toNat (F 24))) t < 0 then (t : Int) else fi (fun y9 : Nat => aM F (wt F R (y9 : Int)) (Int.toNat (F 24))) t from by first | exact fi_t (P := (fun y9 : Nat => aM F (wt F R (y9 : Int)) (Int.toNat (F 24)))) (n := t) h50 | exact fi_f (P := (fun y9 : Nat => aM F (wt F R (y9 : Int)) (Int.toNat (F 24)))) (n := t) h50]
                  rw [show (cn (fun y9 : Nat => aM F (wt F R (y9 : Int)) (Int.toNat (F 24))) (t + 1) : Int) = cn (fun y9 : Nat => aM F (wt F R (y9 : Int)) (Int.toNat (F 24))) t + 1 from by first | exact cn_t (P := (fun y9 : Nat => aM F (wt F R (y9 : Int)) (Int.toNat (F 24)))) (n := t) h50 | exact cn_f (P := (fun y9 : Nat => aM F (wt F R (y9 : Int)) (Int.toNat (F 24)))) (n := t) h50]
                  exact lv_sub hl [0, 1, 2, 3, 4, 5] rfl
                exact ih31 (t + 1) (t : Int) (by omega) (by omega) _ _ hP hS ls hl9
              · skip
                refine lv_iload hx hb dX4_settings_56 (lv_at hl 2 rfl) ?_
                refine jz_if_ge (tgt := 66) C dX4_settings_58 (by decide) (by omega) (fun h58 => ?_) (fun h58 => ?_)
                · skip
                  refine lv_iload hx hb dX4_settings_66 (lv_at hl 2 rfl) ?_
                  have hl9 : lv_has ls 6 [(3, .int (iI (cn (fun y9 : Nat => aM F (wt F R (y9 : Int)) (Int.toNat (F 24))) t + 1))), (5, .int (iI ((t : Int)))), (4, .int (iI (fi (fun y9 : Nat => aM F (wt F R (y9 : Int)) (Int.toNat (F 24))) t))), (2, .int (iI (en (R 6) (Int.toNat (F 3))))), (0, .ref (ad 0)), (1, .int (iI (w)))] := lv_sub hl [0, 1, 2, 3, 4, 5] rfl
                  have hj9 := hj56 ls hl9
                  rw [show (if fi (fun y9 : Nat => aM F (wt F R (y9 : Int)) (Int.toNat (F 24))) t < 0 then (t : Int) else fi (fun y9 : Nat => aM F (wt F R (y9 : Int)) (Int.toNat (F 24))) t : Int) = fi (fun y9 : Nat => aM F (wt F R (y9 : Int)) (Int.toNat (F 24))) t from by first | rfl | exact if_pos (by assumption) | exact if_neg (by assumption) | exact (if_pos (by assumption)).symm | exact (if_neg (by assumption)).symm | omega | (simp only [*, if_true, if_false, not_true, not_false_iff]; done) | (simp [*]; done) | (split <;> omega)] at hj9
                  exact hj9
                · skip
                  refine lv_iload hx hb dX4_settings_61 (lv_at hl 1 rfl) ?_
                  refine lv_goto (tgt := 68) hx hb dX4_settings_63 (by decide) ?_
                  have hl9 : lv_has ls 6 [(3, .int (iI (cn (fun y9 : Nat => aM F (wt F R (y9 : Int)) (Int.toNat (F 24))) t + 1))), (5, .int (iI ((t : Int)))), (4, .int (iI (fi (fun y9 : Nat => aM F (wt F R (y9 : Int)) (Int.toNat (F 24))) t))), (2, .int (iI (en (R 6) (Int.toNat (F 3))))), (0, .ref (ad 0)), (1, .int (iI (w)))] := lv_sub hl [0, 1, 2, 3, 4, 5] rfl
                  have hj9 := hj56 ls hl9
                  rw [show (if fi (fun y9 : Nat => aM F (wt F R (y9 : Int)) (Int.toNat (F 24))) t < 0 then (t : Int) else fi (fun y9 : Nat => aM F (wt F R (y9 : Int)) (Int.toNat (F 24))) t : Int) = (t : Int) from by first | rfl | exact if_pos (by assumption) | exact if_neg (by assumption) | exact (if_pos (by assumption)).symm | exact (if_neg (by assumption)).symm | omega | (simp only [*, if_true, if_false, not_true, not_false_iff]; done) | (simp [*]; done) | (split <;> omega)] at hj9
                  exact hj9
      exact key31 (Int.toNat ((2 ^ (Int.toNat (2 * F 3))) - (0 : Int)) + 1) 0 (en (R 6) (Int.toNat (F 3))) (by omega) (by omega) _ _ (by rw [show uR R 6 (tA (F 3) (en (R 6) (Int.toNat (F 3))) (R 6)) = R from wt_en hM]; exact hP) hS ls (lv_sub hl [0, 1, 2, 3, 4, 5] rfl)
    · skip
      refine jz_bipush C dX4_settings_14 (by decide +kernel) ?_
      have hk9 : k_X4_settings F R w = (-3, F, R) := by rw [k_X4_settings, (if_neg (Int.not_lt.mpr h2)), (if_pos h11)]
      exact hret _ (F, R) _ _ _ _ dX4_settings_16 ⟨by rw [hk9], by rw [hk9], by rw [hk9]⟩ hP hS
  · skip
    refine jz_const C dX4_settings_5 ?_
    have hk9 : k_X4_settings F R w = (-1, F, R) := by rw [k_X4_settings, (if_pos h2)]
    exact hret _ (F, R) _ _ _ _ dX4_settings_6 ⟨by rw [hk9], by rw [hk9], by rw [hk9]⟩ hP hS
def k_X4_laws (F : Nat → Int) (R : Nat → Nat → Int)  : Int × (Nat → Int) × (Nat → Nat → Int) := if (F 1) = 0 then ((-3, F, R)) else ((bs (fun y9 : Nat => aM (u1 F 11 (y9 : Int)) R (Int.toNat (F 24))) (3), F, R))
abbrev rm_X4_laws : Room := { frames := 3, cells := 0, slots := 0, locals := 74 }
set_option maxHeartbeats 4000000 in
set_option maxRecDepth 100000 in
theorem c_X4_laws {l : Launch} {D : va_G} {cI cS : ClassId} {ad : Nat → Nat} {F : Nat → Int} {R : Nat → Nat → Int} {A : Nat → Prop} (hD : va_D A (wM cI ad F R))    (hS9 : MV F R): JV l yX4_laws wsX4_laws rm_X4_laws (jB D cI cS (wM cI ad F R)) A [.ref (ad 0)] (fun v9 (u9 : (Nat → Int) × (Nat → Nat → Int)) => v9 = some (.int (iI (k_X4_laws F R).1)) ∧ u9.1 = (k_X4_laws F R).2.1 ∧ u9.2 = (k_X4_laws F R).2.2) (fun u9 H => va_P D vwCl (wM cI ad u9.1 u9.2) H) := by
  refine JV.mkI rfl (by decide +kernel) rfl (Nat.le_of_ble_eq_true rfl) ?_
  intro p e st mi ar bl mth cd Q ls C hB hl hret
  obtain ⟨hE, hP⟩ := hB
  have hx := C.1
  have hb := C.2.1
  have hl : lv_has ls 4 [(0, .ref (ad 0))] := hl
  have hin4 : ∀ w ∈ wsX40, w ∈ wsX4_laws := fun _ h => List.mem_cons_of_mem _ (List.mem_append_right _ h)
  suffices hgo : ∀ (H : Heap) (lc : List Loc), va_P D vwCl (wM cI ad F R) H → va_S A st.heap H lc → W p l e rm_X4_laws st mi ar bl mth cd H lc 0 0 Q (F0 mi 0 ls []) from hgo _ _ hP va_S.rf
  clear hP
  intro H lc hP hS
  have hM := hS9.town
  have hW := hM.works
  have hK := hM.wards
  have hlaw := hM.law
  have hrd := hM.reads
  have hsp := hM.spots
  have hhi := hM.high
  have hwd := hM.wide
  have hP8 := pw8 hW
  have hen := en_bd4 hW hM.vane
  refine lv_aload_n hx hb dX4_laws_0 rfl (lv_at hl 0 rfl) ?_
  refine fg_M_high C hin4 hE hP (v := F 1) (List.mem_of_getElem? (i := 1) rfl) dX4_laws_1 rfl ?_
  refine jz_if_ne (tgt := 10) C dX4_laws_4 (by decide) (by omega) (fun h4 => ?_) (fun h4 => ?_)
  · skip
    refine lv_aload_n hx hb dX4_laws_10 rfl (lv_at hl 0 rfl) ?_
    refine fg_M_lawNow C hin4 hE hP (v := F 11) (List.mem_of_getElem? (i := 2) rfl) dX4_laws_11 rfl ?_
    refine lv_istore_n (lv' := [(1, .int (iI (F 11))), (0, .ref (ad 0))]) hx hb dX4_laws_14 rfl hl (by decide) rfl (fun ls hl => ?_)
    refine jz_const C dX4_laws_15 ?_
    refine lv_istore_n (lv' := [(2, .int (iI (0))), (1, .int (iI (F 11))), (0, .ref (ad 0))]) hx hb dX4_laws_16 rfl hl (by decide) rfl (fun ls hl => ?_)
    refine jz_const C dX4_laws_17 ?_
    refine lv_istore_n (lv' := [(3, .int (iI (0))), (2, .int (iI (0))), (1, .int (iI (F 11))), (0, .ref (ad 0))]) hx hb dX4_laws_18 rfl hl (by decide) rfl (fun ls hl => ?_)
    have key19 : ∀ (n19 : Nat) (v : Nat) (x : Int) (hv3 : v ≤ 3), (3 - (v : Int) : Int) < n19 → ∀ (H : Heap) (lc : List Loc), va_P D vwCl (wM cI ad (u1 F 11 x) R) H → va_S A st.heap H lc → ∀ (ls : Array Slot), lv_has ls 4 [(3, .int (iI ((v : Int)))), (2, .int (iI (bs (fun y9 : Nat => aM (u1 F 11 (y9 : Int)) R (Int.toNat (F 24))) v))), (1, .int (iI (F 11))), (0, .ref (ad 0))] → W p l e rm_X4_laws st mi ar bl mth cd H lc 0 0 Q (F0 mi 19 ls []) := by
      intro n19
      induction n19 with
      | zero => intro v x hv3 hn9; exfalso; omega
      | succ n19 ih19 =>
        intro v x hv3 hn9 H lc hP hS ls hl
        refine lv_iload_n hx hb dX4_laws_19 rfl (lv_at hl 0 rfl) ?_
        refine jz_const C dX4_laws_20 ?_
        refine jz_icmp_ge (tgt := 52) C dX4_laws_21 (by decide) (by omega) (fun h21 => ?_) (fun h21 => ?_)
        · skip
          have hg9 : v = 3 := (by omega)
          subst hg9
          have hl : lv_has ls 4 [(2, .int (iI (bs (fun y9 : Nat => aM (u1 F 11 (y9 : Int)) R (Int.toNat (F 24))) (3)))), (1, .int (iI (F 11))), (0, .ref (ad 0))] := lv_sub hl [1, 2, 3] rfl
          refine lv_aload_n hx hb dX4_laws_52 rfl (lv_at hl 2 rfl) ?_
          refine lv_iload_n hx hb dX4_laws_53 rfl (lv_at hl 1 rfl) ?_
          refine fp_M_lawNow C hin4 hE hP (jDM hD) hS (List.mem_of_getElem? (i := 2) rfl) dX4_laws_54 (fun H lc hP hS => ?_)
          have hP : va_P D vwCl (wM cI ad F R) H := by rw [u1_u, u1_id] at hP; exact hP
          refine lv_iload_n hx hb dX4_laws_57 rfl (lv_at hl 0 rfl) ?_
          have hk9 : k_X4_laws F R = (bs (fun y9 : Nat => aM (u1 F 11 (y9 : Int)) R (Int.toNat (F 24))) (3), F, R) := by rw [k_X4_laws, (if_neg (h4))]
          exact hret _ (F, R) _ _ _ _ dX4_laws_58 ⟨by rw [hk9], by rw [hk9], by rw [hk9]⟩ hP hS
        · skip
          refine lv_aload_n hx hb dX4_laws_24 rfl (lv_at hl 3 rfl) ?_
          refine lv_iload_n hx hb dX4_laws_25 rfl (lv_at hl 0 rfl) ?_
          refine fp_M_lawNow C hin4 hE hP (jDM hD) hS (List.mem_of_getElem? (i := 2) rfl) dX4_laws_26 (fun H lc hP hS => ?_)
          have hP : va_P D vwCl (wM cI ad (u1 F 11 (v : Int)) R) H := by rw [u1_u] at hP; exact hP
          refine lv_iload_n hx hb dX4_laws_29 rfl (lv_at hl 1 rfl) ?_
          refine lv_aload_n hx hb dX4_laws_30 rfl (lv_at hl 3 rfl) ?_
          refine jc_V C hl.1 (jpreV hE hP 4 0 rfl rfl) (c_X4_areSo  (MI_law hM (by omega))) (cwV 0 C.2.2.2.2 gX4_laws_X4_areSo rfl rfl rfl (by decide +kernel) ⟨Nat.le_of_ble_eq_true rfl, Nat.le_of_ble_eq_true rfl⟩) (As := []) (v := .int (iI (if aM (u1 F 11 (v : Int)) R (Int.toNat (F 24)) = true then 1 else 0))) (hn := rfl) (hst := rfl) (rest := [.int (iI (bs (fun y9 : Nat => aM (u1 F 11 (y9 : Int)) R (Int.toNat (F 24))) v))]) (hW := Nat.le_of_ble_eq_true rfl) (hdg := dX4_laws_31) (hf := ⟨Nat.le_of_ble_eq_true rfl, Nat.le_of_ble_eq_true rfl⟩) ?_
          refine jz_bool_eq (tgt := 43) C dX4_laws_34 (by decide) (fun h34 => ?_) (fun h34 => ?_)
          · skip
            refine jz_const C dX4_laws_43 ?_
            refine lv_ior hx hb dX4_laws_44 ?_
            rw [jz_orz]
            refine lv_istore_n (lv' := [(2, .int (iI (bs (fun y9 : Nat => aM (u1 F 11 (y9 : Int)) R (Int.toNat (F 24))) v))), (3, .int (iI ((v : Int)))), (1, .int (iI (F 11))), (0, .ref (ad 0))]) hx hb dX4_laws_45 rfl hl (by decide) rfl (fun ls hl => ?_)
            refine jz_iinc (k := 1) (z := (v : Int) + 1) (lv' := [(3, .int (iI ((v : Int) + 1))), (2, .int (iI (bs (fun y9 : Nat => aM (u1 F 11 (y9 : Int)) R (Int.toNat (F 24))) v))), (1, .int (iI (F 11))), (0, .ref (ad 0))]) C dX4_laws_46 hl rfl rfl (by decide) rfl (fun ls hl => ?_)
            refine lv_goto (tgt := 19) hx hb dX4_laws_49 (by decide) ?_
            have hl9 : lv_has ls 4 [(3, .int (iI ((v + 1 : Int)))), (2, .int (iI (bs (fun y9 : Nat => aM (u1 F 11 (y9 : Int)) R (Int.toNat (F 24))) (v + 1)))), (1, .int (iI (F 11))), (0, .ref (ad 0))] := by
              rw [show (bs (fun y9 : Nat => aM (u1 F 11 (y9 : Int)) R (Int.toNat (F 24))) (v + 1) : Int) = bs (fun y9 : Nat => aM (u1 F 11 (y9 : Int)) R (Int.toNat (F 24))) v from by first | exact bs_t (P := (fun y9 : Nat => aM (u1 F 11 (y9 : Int)) R (Int.toNat (F 24)))) (n := v) h34 | exact bs_f (P := (fun y9 : Nat => aM (u1 F 11 (y9 : Int)) R (Int.toNat (F 24)))) (n := v) h34]
              exact lv_sub hl [0, 1, 2, 3] rfl
            exact ih19 (v + 1) (v : Int) (by omega) (by omega) _ _ hP hS ls hl9
          · skip
            refine jz_const C dX4_laws_37 ?_
            refine lv_iload_n hx hb dX4_laws_38 rfl (lv_at hl 0 rfl) ?_
            refine lv_ishl hx hb dX4_laws_39 ?_
            refine lv_goto (tgt := 44) hx hb dX4_laws_40 (by decide) ?_
            refine lv_ior hx hb dX4_laws_44 ?_
            rw [jz_or1 (by omega) bs_bd]
            refine lv_istore_n (lv' := [(2, .int (iI ((bs (fun y9 : Nat => aM (u1 F 11 (y9 : Int)) R (Int.toNat (F 24))) v) + 1 * 2 ^ v))), (3, .int (iI ((v : Int)))), (1, .int (iI (F 11))), (0, .ref (ad 0))]) hx hb dX4_laws_45 rfl hl (by decide) rfl (fun ls hl => ?_)
            refine jz_iinc (k := 1) (z := (v : Int) + 1) (lv' := [(3, .int (iI ((v : Int) + 1))), (2, .int (iI ((bs (fun y9 : Nat => aM (u1 F 11 (y9 : Int)) R (Int.toNat (F 24))) v) + 1 * 2 ^ v))), (1, .int (iI (F 11))), (0, .ref (ad 0))]) C dX4_laws_46 hl rfl rfl (by decide) rfl (fun ls hl => ?_)
            refine lv_goto (tgt := 19) hx hb dX4_laws_49 (by decide) ?_
            have hl9 : lv_has ls 4 [(3, .int (iI ((v + 1 : Int)))), (2, .int (iI (bs (fun y9 : Nat => aM (u1 F 11 (y9 : Int)) R (Int.toNat (F 24))) (v + 1)))), (1, .int (iI (F 11))), (0, .ref (ad 0))] := by
              rw [show (bs (fun y9 : Nat => aM (u1 F 11 (y9 : Int)) R (Int.toNat (F 24))) (v + 1) : Int) = (bs (fun y9 : Nat => aM (u1 F 11 (y9 : Int)) R (Int.toNat (F 24))) v) + 1 * 2 ^ v from by first | exact bs_t (P := (fun y9 : Nat => aM (u1 F 11 (y9 : Int)) R (Int.toNat (F 24)))) (n := v) h34 | exact bs_f (P := (fun y9 : Nat => aM (u1 F 11 (y9 : Int)) R (Int.toNat (F 24)))) (n := v) h34]
              exact lv_sub hl [0, 1, 2, 3] rfl
            exact ih19 (v + 1) (v : Int) (by omega) (by omega) _ _ hP hS ls hl9
    exact key19 (Int.toNat (3 - (0 : Int)) + 1) 0 (F 11) (by omega) (by omega) _ _ (by rw [u1_id]; exact hP) hS ls (lv_sub hl [0, 1, 2, 3] rfl)
  · skip
    refine jz_bipush C dX4_laws_7 (by decide +kernel) ?_
    have hk9 : k_X4_laws F R = (-3, F, R) := by rw [k_X4_laws, (if_pos h4)]
    exact hret _ (F, R) _ _ _ _ dX4_laws_9 ⟨by rw [hk9], by rw [hk9], by rw [hk9]⟩ hP hS
def k_X4_powers (F : Nat → Int) (R : Nat → Nat → Int) (w : Int) : Int × (Nat → Int) × (Nat → Nat → Int) := if ¬ (0 ≤ w ∧ w ≤ (F 3) - 1) then ((-1, F, R)) else ((bs (fun y9 : Nat => !(y9 == 0) && aM F (uR R 5 (u1 (R 5) (Int.toNat w) (y9 : Int))) (Int.toNat (F 24))) (10), F, R))
abbrev rm_X4_powers : Room := { frames := 3, cells := 0, slots := 0, locals := 74 }
set_option maxHeartbeats 4000000 in
set_option maxRecDepth 100000 in
theorem c_X4_powers {l : Launch} {D : va_G} {cI cS : ClassId} {ad : Nat → Nat} {F : Nat → Int} {R : Nat → Nat → Int} {A : Nat → Prop} (hD : va_D A (wM cI ad F R))  (w : Int)  (hS9 : MV F R) (hr_w : -2147483648 ≤ w ∧ w < 2147483648): JV l yX4_powers wsX4_powers rm_X4_powers (jB D cI cS (wM cI ad F R)) A [.ref (ad 0), .int (iI (w))] (fun v9 (u9 : (Nat → Int) × (Nat → Nat → Int)) => v9 = some (.int (iI (k_X4_powers F R w).1)) ∧ u9.1 = (k_X4_powers F R w).2.1 ∧ u9.2 = (k_X4_powers F R w).2.2) (fun u9 H => va_P D vwCl (wM cI ad u9.1 u9.2) H) := by
  refine JV.mkI rfl (by decide +kernel) rfl (Nat.le_of_ble_eq_true rfl) ?_
  intro p e st mi ar bl mth cd Q ls C hB hl hret
  obtain ⟨hE, hP⟩ := hB
  have hx := C.1
  have hb := C.2.1
  have hl : lv_has ls 5 [(0, .ref (ad 0)), (1, .int (iI (w)))] := hl
  have hin4 : ∀ w ∈ wsX40, w ∈ wsX4_powers := fun _ h => List.mem_cons_of_mem _ (List.mem_append_right _ h)
  suffices hgo : ∀ (H : Heap) (lc : List Loc), va_P D vwCl (wM cI ad F R) H → va_S A st.heap H lc → W p l e rm_X4_powers st mi ar bl mth cd H lc 0 0 Q (F0 mi 0 ls []) from hgo _ _ hP va_S.rf
  clear hP
  intro H lc hP hS
  have hM := hS9.town
  have hW := hM.works
  have hK := hM.wards
  have hlaw := hM.law
  have hrd := hM.reads
  have hsp := hM.spots
  have hhi := hM.high
  have hwd := hM.wide
  have hP8 := pw8 hW
  have hen := en_bd4 hW hM.vane
  refine lv_aload_n hx hb dX4_powers_0 rfl (lv_at hl 0 rfl) ?_
  refine lv_iload_n hx hb dX4_powers_1 rfl (lv_at hl 1 rfl) ?_
  refine jc_V C hl.1 (jpreV hE hP 4 0 rfl rfl) (c_X4_noWork w hM.works (show -2147483648 ≤ w ∧ w < 2147483648 from (by omega))) (cwV 1 C.2.2.2.2 gX4_powers_X4_noWork rfl rfl rfl (by decide +kernel) ⟨Nat.le_of_ble_eq_true rfl, Nat.le_of_ble_eq_true rfl⟩) (As := [.int (iI (w))]) (v := .int (iI (if ¬ (0 ≤ w ∧ w ≤ (F 3) - 1) then 1 else 0))) (hn := rfl) (hst := rfl) (rest := []) (hW := Nat.le_of_ble_eq_true rfl) (hdg := dX4_powers_2) (hf := ⟨Nat.le_of_ble_eq_true rfl, Nat.le_of_ble_eq_true rfl⟩) ?_
  refine jz_bool_eq (tgt := 10) C dX4_powers_5 (by decide) (fun h5 => ?_) (fun h5 => ?_)
  · skip
    refine lv_aload_n hx hb dX4_powers_10 rfl (lv_at hl 0 rfl) ?_
    refine fg_M_strongOf C hin4 hE hP (List.mem_of_getElem? (i := 1) rfl) dX4_powers_11 ?_
    refine lv_iload_n hx hb dX4_powers_14 rfl (lv_at hl 1 rfl) ?_
    refine fl_M_strongOf C hE hP (v := R 5 (Int.toNat w)) dX4_powers_15 (by omega) rfl ?_
    refine lv_istore_n (lv' := [(2, .int (iI (R 5 (Int.toNat w)))), (0, .ref (ad 0)), (1, .int (iI (w)))]) hx hb dX4_powers_16 rfl hl (by decide) rfl (fun ls hl => ?_)
    refine jz_const C dX4_powers_17 ?_
    refine lv_istore_n (lv' := [(3, .int (iI (0))), (2, .int (iI (R 5 (Int.toNat w)))), (0, .ref (ad 0)), (1, .int (iI (w)))]) hx hb dX4_powers_18 rfl hl (by decide) rfl (fun ls hl => ?_)
    refine jz_const C dX4_powers_19 ?_
    refine lv_istore (lv' := [(4, .int (iI (1))), (3, .int (iI (0))), (2, .int (iI (R 5 (Int.toNat w)))), (0, .ref (ad 0)), (1, .int (iI (w)))]) hx hb dX4_powers_20 hl (by decide) rfl (fun ls hl => ?_)
    have key22 : ∀ (n22 : Nat) (v : Nat) (x : Int) (hv9 : 1 ≤ v ∧ v ≤ 10), (10 - (v : Int) : Int) < n22 → ∀ (H : Heap) (lc : List Loc), va_P D vwCl (wM cI ad F (uR R 5 (u1 (R 5) (Int.toNat w) x))) H → va_S A st.heap H lc → ∀ (ls : Array Slot), lv_has ls 5 [(4, .int (iI ((v : Int)))), (3, .int (iI (bs (fun y9 : Nat => !(y9 == 0) && aM F (uR R 5 (u1 (R 5) (Int.toNat w) (y9 : Int))) (Int.toNat (F 24))) v))), (2, .int (iI (R 5 (Int.toNat w)))), (0, .ref (ad 0)), (1, .int (iI (w)))] → W p l e rm_X4_powers st mi ar bl mth cd H lc 0 0 Q (F0 mi 22 ls []) := by
      intro n22
      induction n22 with
      | zero => intro v x hv9 hn9; exfalso; omega
      | succ n22 ih22 =>
        intro v x hv9 hn9 H lc hP hS ls hl
        refine lv_iload hx hb dX4_powers_22 (lv_at hl 0 rfl) ?_
        refine jz_bipush C dX4_powers_24 (by decide +kernel) ?_
        refine jz_icmp_ge (tgt := 61) C dX4_powers_26 (by decide) (by omega) (fun h26 => ?_) (fun h26 => ?_)
        · skip
          have hg9 : v = 10 := (by omega)
          subst hg9
          have hl : lv_has ls 5 [(3, .int (iI (bs (fun y9 : Nat => !(y9 == 0) && aM F (uR R 5 (u1 (R 5) (Int.toNat w) (y9 : Int))) (Int.toNat (F 24))) (10)))), (2, .int (iI (R 5 (Int.toNat w)))), (0, .ref (ad 0)), (1, .int (iI (w)))] := lv_sub hl [1, 2, 3, 4] rfl
          refine lv_aload_n hx hb dX4_powers_61 rfl (lv_at hl 2 rfl) ?_
          refine fg_M_strongOf C hin4 hE hP (List.mem_of_getElem? (i := 1) rfl) dX4_powers_62 ?_
          refine lv_iload_n hx hb dX4_powers_65 rfl (lv_at hl 3 rfl) ?_
          refine lv_iload_n hx hb dX4_powers_66 rfl (lv_at hl 1 rfl) ?_
          refine fs_M_strongOf C hE hP (jDM hD) hS dX4_powers_67 (by omega) (fun H lc hP hS => ?_)
          have hP : va_P D vwCl (wM cI ad F R) H := by rw [uR_u, uR_q, u1_u, u1_id, uR_id] at hP; exact hP
          refine lv_iload_n hx hb dX4_powers_68 rfl (lv_at hl 0 rfl) ?_
          have hk9 : k_X4_powers F R w = (bs (fun y9 : Nat => !(y9 == 0) && aM F (uR R 5 (u1 (R 5) (Int.toNat w) (y9 : Int))) (Int.toNat (F 24))) (10), F, R) := by rw [k_X4_powers, (if_neg h5)]
          exact hret _ (F, R) _ _ _ _ dX4_powers_69 ⟨by rw [hk9], by rw [hk9], by rw [hk9]⟩ hP hS
        · skip
          refine lv_aload_n hx hb dX4_powers_29 rfl (lv_at hl 3 rfl) ?_
          refine fg_M_strongOf C hin4 hE hP (List.mem_of_getElem? (i := 1) rfl) dX4_powers_30 ?_
          refine lv_iload_n hx hb dX4_powers_33 rfl (lv_at hl 4 rfl) ?_
          refine lv_iload hx hb dX4_powers_34 (lv_at hl 0 rfl) ?_
          refine fs_M_strongOf C hE hP (jDM hD) hS dX4_powers_36 (by omega) (fun H lc hP hS => ?_)
          have hP : va_P D vwCl (wM cI ad F (uR R 5 (u1 (R 5) (Int.toNat w) (v : Int)))) H := by rw [uR_u, uR_q, u1_u] at hP; exact hP
          refine lv_iload_n hx hb dX4_powers_37 rfl (lv_at hl 1 rfl) ?_
          refine lv_aload_n hx hb dX4_powers_38 rfl (lv_at hl 3 rfl) ?_
          refine jc_V C hl.1 (jpreV hE hP 4 0 rfl rfl) (c_X4_areSo  (MI_str hM (by omega))) (cwV 0 C.2.2.2.2 gX4_powers_X4_areSo rfl rfl rfl (by decide +kernel) ⟨Nat.le_of_ble_eq_true rfl, Nat.le_of_ble_eq_true rfl⟩) (As := []) (v := .int (iI (if aM F (uR R 5 (u1 (R 5) (Int.toNat w) (v : Int))) (Int.toNat (F 24)) = true then 1 else 0))) (hn := rfl) (hst := rfl) (rest := [.int (iI (bs (fun y9 : Nat => !(y9 == 0) && aM F (uR R 5 (u1 (R 5) (Int.toNat w) (y9 : Int))) (Int.toNat (F 24))) v))]) (hW := Nat.le_of_ble_eq_true rfl) (hdg := dX4_powers_39) (hf := ⟨Nat.le_of_ble_eq_true rfl, Nat.le_of_ble_eq_true rfl⟩) ?_
          refine jz_bool_eq (tgt := 52) C dX4_powers_42 (by decide) (fun h42 => ?_) (fun h42 => ?_)
          · skip
            refine jz_const C dX4_powers_52 ?_
            refine lv_ior hx hb dX4_powers_53 ?_
            rw [jz_orz]
            refine lv_istore_n (lv' := [(3, .int (iI (bs (fun y9 : Nat => !(y9 == 0) && aM F (uR R 5 (u1 (R 5) (Int.toNat w) (y9 : Int))) (Int.toNat (F 24))) v))), (4, .int (iI ((v : Int)))), (2, .int (iI (R 5 (Int.toNat w)))), (0, .ref (ad 0)), (1, .int (iI (w)))]) hx hb dX4_powers_54 rfl hl (by decide) rfl (fun ls hl => ?_)
            refine jz_iinc (k := 1) (z := (v : Int) + 1) (lv' := [(4, .int (iI ((v : Int) + 1))), (3, .int (iI (bs (fun y9 : Nat => !(y9 == 0) && aM F (uR R 5 (u1 (R 5) (Int.toNat w) (y9 : Int))) (Int.toNat (F 24))) v))), (2, .int (iI (R 5 (Int.toNat w)))), (0, .ref (ad 0)), (1, .int (iI (w)))]) C dX4_powers_55 hl rfl rfl (by decide) rfl (fun ls hl => ?_)
            refine lv_goto (tgt := 22) hx hb dX4_powers_58 (by decide) ?_
            have hl9 : lv_has ls 5 [(4, .int (iI ((v + 1 : Int)))), (3, .int (iI (bs (fun y9 : Nat => !(y9 == 0) && aM F (uR R 5 (u1 (R 5) (Int.toNat w) (y9 : Int))) (Int.toNat (F 24))) (v + 1)))), (2, .int (iI (R 5 (Int.toNat w)))), (0, .ref (ad 0)), (1, .int (iI (w)))] := by
              rw [show (bs (fun y9 : Nat => !(y9 == 0) && aM F (uR R 5 (u1 (R 5) (Int.toNat w) (y9 : Int))) (Int.toNat (F 24))) (v + 1) : Int) = bs (fun y9 : Nat => !(y9 == 0) && aM F (uR R 5 (u1 (R 5) (Int.toNat w) (y9 : Int))) (Int.toNat (F 24))) v from by first | exact bs_t (P := (fun y9 : Nat => !(y9 == 0) && aM F (uR R 5 (u1 (R 5) (Int.toNat w) (y9 : Int))) (Int.toNat (F 24)))) (n := v) (by simp only [h42, Bool.and_true, Bool.not_eq_true', beq_eq_false_iff_ne]; omega) | exact bs_f (P := (fun y9 : Nat => !(y9 == 0) && aM F (uR R 5 (u1 (R 5) (Int.toNat w) (y9 : Int))) (Int.toNat (F 24)))) (n := v) (by simp [h42])]
              exact lv_sub hl [0, 1, 2, 3, 4] rfl
            exact ih22 (v + 1) (v : Int) (by omega) (by omega) _ _ hP hS ls hl9
          · skip
            refine jz_const C dX4_powers_45 ?_
            refine lv_iload hx hb dX4_powers_46 (lv_at hl 0 rfl) ?_
            refine lv_ishl hx hb dX4_powers_48 ?_
            refine lv_goto (tgt := 53) hx hb dX4_powers_49 (by decide) ?_
            refine lv_ior hx hb dX4_powers_53 ?_
            rw [jz_or1 (by omega) bs_bd]
            refine lv_istore_n (lv' := [(3, .int (iI ((bs (fun y9 : Nat => !(y9 == 0) && aM F (uR R 5 (u1 (R 5) (Int.toNat w) (y9 : Int))) (Int.toNat (F 24))) v) + 1 * 2 ^ v))), (4, .int (iI ((v : Int)))), (2, .int (iI (R 5 (Int.toNat w)))), (0, .ref (ad 0)), (1, .int (iI (w)))]) hx hb dX4_powers_54 rfl hl (by decide) rfl (fun ls hl => ?_)
            refine jz_iinc (k := 1) (z := (v : Int) + 1) (lv' := [(4, .int (iI ((v : Int) + 1))), (3, .int (iI ((bs (fun y9 : Nat => !(y9 == 0) && aM F (uR R 5 (u1 (R 5) (Int.toNat w) (y9 : Int))) (Int.toNat (F 24))) v) + 1 * 2 ^ v))), (2, .int (iI (R 5 (Int.toNat w)))), (0, .ref (ad 0)), (1, .int (iI (w)))]) C dX4_powers_55 hl rfl rfl (by decide) rfl (fun ls hl => ?_)
            refine lv_goto (tgt := 22) hx hb dX4_powers_58 (by decide) ?_
            have hl9 : lv_has ls 5 [(4, .int (iI ((v + 1 : Int)))), (3, .int (iI (bs (fun y9 : Nat => !(y9 == 0) && aM F (uR R 5 (u1 (R 5) (Int.toNat w) (y9 : Int))) (Int.toNat (F 24))) (v + 1)))), (2, .int (iI (R 5 (Int.toNat w)))), (0, .ref (ad 0)), (1, .int (iI (w)))] := by
              rw [show (bs (fun y9 : Nat => !(y9 == 0) && aM F (uR R 5 (u1 (R 5) (Int.toNat w) (y9 : Int))) (Int.toNat (F 24))) (v + 1) : Int) = (bs (fun y9 : Nat => !(y9 == 0) && aM F (uR R 5 (u1 (R 5) (Int.toNat w) (y9 : Int))) (Int.toNat (F 24))) v) + 1 * 2 ^ v from by first | exact bs_t (P := (fun y9 : Nat => !(y9 == 0) && aM F (uR R 5 (u1 (R 5) (Int.toNat w) (y9 : Int))) (Int.toNat (F 24)))) (n := v) (by simp only [h42, Bool.and_true, Bool.not_eq_true', beq_eq_false_iff_ne]; omega) | exact bs_f (P := (fun y9 : Nat => !(y9 == 0) && aM F (uR R 5 (u1 (R 5) (Int.toNat w) (y9 : Int))) (Int.toNat (F 24)))) (n := v) (by simp [h42])]
              exact lv_sub hl [0, 1, 2, 3, 4] rfl
            exact ih22 (v + 1) (v : Int) (by omega) (by omega) _ _ hP hS ls hl9
    exact key22 (Int.toNat (10 - (1 : Int)) + 1) 1 (R 5 (Int.toNat w)) (by omega) (by omega) _ _ (by rw [u1_id, uR_id]; exact hP) hS ls (lv_sub hl [0, 1, 2, 3, 4] rfl)
  · skip
    refine jz_const C dX4_powers_8 ?_
    have hk9 : k_X4_powers F R w = (-1, F, R) := by rw [k_X4_powers, (if_pos h5)]
    exact hret _ (F, R) _ _ _ _ dX4_powers_9 ⟨by rw [hk9], by rw [hk9], by rw [hk9]⟩ hP hS
def k_X4_odds (F : Nat → Int) (R : Nat → Nat → Int) (c : Int) (v : Int) (which : Int) : Int × (Nat → Int) × (Nat → Nat → Int) := if ¬ (0 ≤ c ∧ c ≤ (F 1) * (F 2) - 1) then ((-9223372036854775808, F, R)) else (if 0 ≤ v ∧ v ≤ 99 then (if 0 ≤ which ∧ which ≤ 1 then (((if which = 0 then (cn (fun y9 : Nat => decide (v ≤ ms F (wt F R (y9 : Int)) c)) (2 ^ (Int.toNat (2 * F 3)))) else (2 ^ (Int.toNat (2 * (F 3))))) / ((Nat.gcd (Int.toNat (cn (fun y9 : Nat => decide (v ≤ ms F (wt F R (y9 : Int)) c)) (2 ^ (Int.toNat (2 * F 3))))) (Int.toNat (2 ^ (Int.toNat (2 * (F 3))))) : Nat) : Int), F, R)) else ((-9223372036854775808, F, R))) else ((-9223372036854775808, F, R)))
abbrev rm_X4_odds : Room := { frames := 2, cells := 0, slots := 0, locals := 52 }
set_option maxHeartbeats 4000000 in
set_option maxRecDepth 100000 in
theorem c_X4_odds {l : Launch} {D : va_G} {cI cS : ClassId} {ad : Nat → Nat} {F : Nat → Int} {R : Nat → Nat → Int} {A : Nat → Prop} (hD : va_D A (wM cI ad F R))  (c : Int) (v : Int) (which : Int)  (hS9 : MV F R) (hr_c : -2147483648 ≤ c ∧ c < 2147483648) (hr_v : -2147483648 ≤ v ∧ v < 2147483648) (hr_which : -2147483648 ≤ which ∧ which < 2147483648): JV l yX4_odds wsX4_odds rm_X4_odds (jB D cI cS (wM cI ad F R)) A [.ref (ad 0), .int (iI (c)), .int (iI (v)), .int (iI (which))] (fun v9 (u9 : (Nat → Int) × (Nat → Nat → Int)) => v9 = some (.long (lI (k_X4_odds F R c v which).1)) ∧ u9.1 = (k_X4_odds F R c v which).2.1 ∧ u9.2 = (k_X4_odds F R c v which).2.2) (fun u9 H => va_P D vwCl (wM cI ad u9.1 u9.2) H) := by
  refine JV.mkL rfl (by decide +kernel) rfl (Nat.le_of_ble_eq_true rfl) ?_
  intro p e st mi ar bl mth cd Q ls C hB hl hret
  obtain ⟨hE, hP⟩ := hB
  have hx := C.1
  have hb := C.2.1
  have hl : lv_has ls 8 [(0, .ref (ad 0)), (1, .int (iI (c))), (2, .int (iI (v))), (3, .int (iI (which)))] := hl
  suffices hgo : ∀ (H : Heap) (lc : List Loc), va_P D vwCl (wM cI ad F R) H → va_S A st.heap H lc → W p l e rm_X4_odds st mi ar bl mth cd H lc 0 0 Q (F0 mi 0 ls []) from hgo _ _ hP va_S.rf
  clear hP
  intro H lc hP hS
  have hM := hS9.town
  have hW := hM.works
  have hK := hM.wards
  have hlaw := hM.law
  have hrd := hM.reads
  have hsp := hM.spots
  have hhi := hM.high
  have hwd := hM.wide
  have hP8 := pw8 hW
  have hen := en_bd4 hW hM.vane
  refine lv_aload_n hx hb dX4_odds_0 rfl (lv_at hl 0 rfl) ?_
  refine lv_iload_n hx hb dX4_odds_1 rfl (lv_at hl 1 rfl) ?_
  refine jc_V C hl.1 (jpreV hE hP 4 0 rfl rfl) (c_X4_noSpot c hM.spots (show -2147483648 ≤ c ∧ c < 2147483648 from (by omega))) (cwV 1 C.2.2.2.2 gX4_odds_X4_noSpot rfl rfl rfl (by decide +kernel) ⟨Nat.le_of_ble_eq_true rfl, Nat.le_of_ble_eq_true rfl⟩) (As := [.int (iI (c))]) (v := .int (iI (if ¬ (0 ≤ c ∧ c ≤ (F 1) * (F 2) - 1) then 1 else 0))) (hn := rfl) (hst := rfl) (rest := []) (hW := Nat.le_of_ble_eq_true rfl) (hdg := dX4_odds_2) (hf := ⟨Nat.le_of_ble_eq_true rfl, Nat.le_of_ble_eq_true rfl⟩) ?_
  refine jz_bool_ne (tgt := 30) C dX4_odds_5 (by decide) (fun h5 => ?_) (fun h5 => ?_)
  · skip
    refine jc_S C hl.1 (jpreS hE hP) (c_X4_lost  ) (va_cwS 0 C.2.2.2.2 gX4_odds_X4_lost rfl rfl rfl (by decide +kernel) ⟨Nat.le_of_ble_eq_true rfl, Nat.le_of_ble_eq_true rfl⟩) (As := []) (v := .long (lI (-9223372036854775808))) (hn := rfl) (hst := rfl) (rest := []) (hW := Nat.le_of_ble_eq_true rfl) (hdg := dX4_odds_30) (hf := ⟨Nat.le_of_ble_eq_true rfl, Nat.le_of_ble_eq_true rfl⟩) ?_
    have hk9 : k_X4_odds F R c v which = (-9223372036854775808, F, R) := by rw [k_X4_odds, (if_pos h5)]
    exact hret _ (F, R) _ _ _ _ dX4_odds_33 ⟨by rw [hk9], by rw [hk9], by rw [hk9]⟩ hP hS
  · skip
    refine lv_iload_n hx hb dX4_odds_8 rfl (lv_at hl 2 rfl) ?_
    refine jz_i2l C dX4_odds_9 (by omega) ?_
    refine jz_lconst (z := 0) C rfl dX4_odds_10 ?_
    refine jz_ldc2 (z := 99) C (List.mem_of_getElem? (i := 1) rfl) (by decide +kernel) dX4_odds_11 ?_
    refine jc_S C hl.1 (jpreS hE hP) (c_X4_in v 0 99 (show -9223372036854775808 ≤ v ∧ v < 9223372036854775808 from (by omega)) (show -9223372036854775808 ≤ 0 ∧ 0 < 9223372036854775808 from (by omega)) (show -9223372036854775808 ≤ 99 ∧ 99 < 9223372036854775808 from (by omega))) (va_cwS 3 C.2.2.2.2 gX4_odds_X4_in rfl rfl rfl (by decide +kernel) ⟨Nat.le_of_ble_eq_true rfl, Nat.le_of_ble_eq_true rfl⟩) (As := [.long (lI (v)), .long (lI (0)), .long (lI (99))]) (v := .int (iI (if 0 ≤ v ∧ v ≤ 99 then 1 else 0))) (hn := rfl) (hst := rfl) (rest := []) (hW := Nat.le_of_ble_eq_true rfl) (hdg := dX4_odds_14) (hf := ⟨Nat.le_of_ble_eq_true rfl, Nat.le_of_ble_eq_true rfl⟩) ?_
    refine jz_bool_eq (tgt := 30) C dX4_odds_17 (by decide) (fun h17 => ?_) (fun h17 => ?_)
    · skip
      refine jc_S C hl.1 (jpreS hE hP) (c_X4_lost  ) (va_cwS 0 C.2.2.2.2 gX4_odds_X4_lost rfl rfl rfl (by decide +kernel) ⟨Nat.le_of_ble_eq_true rfl, Nat.le_of_ble_eq_true rfl⟩) (As := []) (v := .long (lI (-9223372036854775808))) (hn := rfl) (hst := rfl) (rest := []) (hW := Nat.le_of_ble_eq_true rfl) (hdg := dX4_odds_30) (hf := ⟨Nat.le_of_ble_eq_true rfl, Nat.le_of_ble_eq_true rfl⟩) ?_
      have hk9 : k_X4_odds F R c v which = (-9223372036854775808, F, R) := by rw [k_X4_odds, (if_neg h5), (if_neg h17)]
      exact hret _ (F, R) _ _ _ _ dX4_odds_33 ⟨by rw [hk9], by rw [hk9], by rw [hk9]⟩ hP hS
    · skip
      refine lv_iload_n hx hb dX4_odds_20 rfl (lv_at hl 3 rfl) ?_
      refine jz_i2l C dX4_odds_21 (by omega) ?_
      refine jz_lconst (z := 0) C rfl dX4_odds_22 ?_
      refine jz_lconst (z := 1) C rfl dX4_odds_23 ?_
      refine jc_S C hl.1 (jpreS hE hP) (c_X4_in which 0 1 (show -9223372036854775808 ≤ which ∧ which < 9223372036854775808 from (by omega)) (show -9223372036854775808 ≤ 0 ∧ 0 < 9223372036854775808 from (by omega)) (show -9223372036854775808 ≤ 1 ∧ 1 < 9223372036854775808 from (by omega))) (va_cwS 3 C.2.2.2.2 gX4_odds_X4_in rfl rfl rfl (by decide +kernel) ⟨Nat.le_of_ble_eq_true rfl, Nat.le_of_ble_eq_true rfl⟩) (As := [.long (lI (which)), .long (lI (0)), .long (lI (1))]) (v := .int (iI (if 0 ≤ which ∧ which ≤ 1 then 1 else 0))) (hn := rfl) (hst := rfl) (rest := []) (hW := Nat.le_of_ble_eq_true rfl) (hdg := dX4_odds_24) (hf := ⟨Nat.le_of_ble_eq_true rfl, Nat.le_of_ble_eq_true rfl⟩) ?_
      refine jz_bool_ne (tgt := 34) C dX4_odds_27 (by decide) (fun h27 => ?_) (fun h27 => ?_)
      · skip
        refine lv_aload_n hx hb dX4_odds_34 rfl (lv_at hl 0 rfl) ?_
        refine jc_V C hl.1 (jpreV hE hP 4 0 rfl rfl) (c_X4_vanesNow  (by first | exact hM | assumption)) (cwV 0 C.2.2.2.2 gX4_odds_X4_vanesNow rfl rfl rfl (by decide +kernel) ⟨Nat.le_of_ble_eq_true rfl, Nat.le_of_ble_eq_true rfl⟩) (As := []) (v := .int (iI (en (R 6) (Int.toNat (F 3))))) (hn := rfl) (hst := rfl) (rest := []) (hW := Nat.le_of_ble_eq_true rfl) (hdg := dX4_odds_35) (hf := ⟨Nat.le_of_ble_eq_true rfl, Nat.le_of_ble_eq_true rfl⟩) ?_
        refine lv_istore (lv' := [(4, .int (iI (en (R 6) (Int.toNat (F 3))))), (0, .ref (ad 0)), (1, .int (iI (c))), (2, .int (iI (v))), (3, .int (iI (which)))]) hx hb dX4_odds_38 hl (by decide) rfl (fun ls hl => ?_)
        refine jz_lconst (z := 0) C rfl dX4_odds_40 ?_
        refine lv_lstore (lv' := [(5, .long (lI (0))), (4, .int (iI (en (R 6) (Int.toNat (F 3))))), (0, .ref (ad 0)), (1, .int (iI (c))), (2, .int (iI (v))), (3, .int (iI (which)))]) hx hb dX4_odds_41 hl (by decide) rfl (fun ls hl => ?_)
        refine jz_const C dX4_odds_43 ?_
        refine lv_istore (lv' := [(7, .int (iI (0))), (5, .long (lI (0))), (4, .int (iI (en (R 6) (Int.toNat (F 3))))), (0, .ref (ad 0)), (1, .int (iI (c))), (2, .int (iI (v))), (3, .int (iI (which)))]) hx hb dX4_odds_44 hl (by decide) rfl (fun ls hl => ?_)
        have hpw := pwN (Int.toNat (2 * F 3))
        have key46 : ∀ (n46 : Nat) (t : Nat) (s : Int) (ht : (t : Int) ≤ (2 ^ (Int.toNat (2 * F 3)))), ((2 ^ (Int.toNat (2 * F 3))) - (t : Int) : Int) < n46 → ∀ (H : Heap) (lc : List Loc), va_P D vwCl (wM cI ad F (uR R 6 (tA (F 3) s (R 6)))) H → va_S A st.heap H lc → ∀ (ls : Array Slot), lv_has ls 8 [(7, .int (iI ((t : Int)))), (5, .long (lI (cn (fun y9 : Nat => decide (v ≤ ms F (wt F R (y9 : Int)) c)) t))), (4, .int (iI (en (R 6) (Int.toNat (F 3))))), (0, .ref (ad 0)), (1, .int (iI (c))), (2, .int (iI (v))), (3, .int (iI (which)))] → W p l e rm_X4_odds st mi ar bl mth cd H lc 0 0 Q (F0 mi 46 ls []) := by
          intro n46
          induction n46 with
          | zero => intro t s ht hn9; exfalso; omega
          | succ n46 ih46 =>
            intro t s ht hn9 H lc hP hS ls hl
            have hpw := pwN (Int.toNat (2 * F 3))
            refine lv_iload hx hb dX4_odds_46 (lv_at hl 0 rfl) ?_
            refine lv_aload_n hx hb dX4_odds_48 rfl (lv_at hl 3 rfl) ?_
            refine jc_V C hl.1 (jpreV hE hP 4 0 rfl rfl) (c_X4_rows  hM.works) (cwV 0 C.2.2.2.2 gX4_odds_X4_rows rfl rfl rfl (by decide +kernel) ⟨Nat.le_of_ble_eq_true rfl, Nat.le_of_ble_eq_true rfl⟩) (As := []) (v := .int (iI (2 ^ (Int.toNat (2 * (F 3)))))) (hn := rfl) (hst := rfl) (rest := [.int (iI ((t : Int)))]) (hW := Nat.le_of_ble_eq_true rfl) (hdg := dX4_odds_49) (hf := ⟨Nat.le_of_ble_eq_true rfl, Nat.le_of_ble_eq_true rfl⟩) ?_
            refine jz_icmp_ge (tgt := 86) C dX4_odds_52 (by decide) (by omega) (fun h52 => ?_) (fun h52 => ?_)
            · skip
              have hg9 : t = 2 ^ (Int.toNat (2 * F 3)) := (by omega)
              subst hg9
              have hl : lv_has ls 8 [(5, .long (lI (cn (fun y9 : Nat => decide (v ≤ ms F (wt F R (y9 : Int)) c)) (2 ^ (Int.toNat (2 * F 3)))))), (4, .int (iI (en (R 6) (Int.toNat (F 3))))), (0, .ref (ad 0)), (1, .int (iI (c))), (2, .int (iI (v))), (3, .int (iI (which)))] := lv_sub hl [1, 2, 3, 4, 5, 6] rfl
              refine lv_aload_n hx hb dX4_odds_86 rfl (lv_at hl 2 rfl) ?_
              refine lv_iload hx hb dX4_odds_87 (lv_at hl 1 rfl) ?_
              refine jw_V C hl.1 (jpreV hE hP 4 0 rfl rfl) (c_X4_turnAll (A := A) (jDM hD) (en (R 6) (Int.toNat (F 3))) hM.works (show 0 ≤ (en (R 6) (Int.toNat (F 3))) ∧ (en (R 6) (Int.toNat (F 3))) < 256 from (by omega))) (cwV 1 C.2.2.2.2 gX4_odds_X4_turnAll rfl rfl rfl (by decide +kernel) ⟨Nat.le_of_ble_eq_true rfl, Nat.le_of_ble_eq_true rfl⟩) (As := [.int (iI (en (R 6) (Int.toNat (F 3))))]) (hn := rfl) (hst := rfl) (rest := []) (hW := Nat.le_of_ble_eq_true rfl) (hdg := dX4_odds_89) (hf := ⟨Nat.le_of_ble_eq_true rfl, Nat.le_of_ble_eq_true rfl⟩) hS (fun v9 uq89 H lc hq9 hP hS => ?_)
              subst hq9
              have hP : va_P D vwCl (wM cI ad F (uR (uR R 6 (tA (F 3) s (R 6))) 6 (tA (F 3) (en (R 6) (Int.toNat (F 3))) (tA (F 3) s (R 6))))) H := hP
              have hP : va_P D vwCl (wM cI ad F R) H := by rw [tA_tA, uR_u, show uR R 6 (tA (F 3) (en (R 6) (Int.toNat (F 3))) (R 6)) = R from wt_en hM] at hP; exact hP
              have hcn := cn_bd (P := (fun y9 : Nat => decide (v ≤ ms F (wt F R (y9 : Int)) c))) (n := (2 ^ (Int.toNat (2 * F 3))))
              refine lv_lload hx hb dX4_odds_92 (lv_at hl 0 rfl) ?_
              refine lv_aload_n hx hb dX4_odds_94 rfl (lv_at hl 2 rfl) ?_
              refine jc_V C hl.1 (jpreV hE hP 4 0 rfl rfl) (c_X4_rows  hM.works) (cwV 0 C.2.2.2.2 gX4_odds_X4_rows rfl rfl rfl (by decide +kernel) ⟨Nat.le_of_ble_eq_true rfl, Nat.le_of_ble_eq_true rfl⟩) (As := []) (v := .int (iI (2 ^ (Int.toNat (2 * (F 3)))))) (hn := rfl) (hst := rfl) (rest := [.long (lI (cn (fun y9 : Nat => decide (v ≤ ms F (wt F R (y9 : Int)) c)) (2 ^ (Int.toNat (2 * F 3)))))]) (hW := Nat.le_of_ble_eq_true rfl) (hdg := dX4_odds_95) (hf := ⟨Nat.le_of_ble_eq_true rfl, Nat.le_of_ble_eq_true rfl⟩) ?_
              refine jz_i2l C dX4_odds_98 (by omega) ?_
              refine lv_iload_n hx hb dX4_odds_99 rfl (lv_at hl 5 rfl) ?_
              refine jc_S C hl.1 (jpreS hE hP) (c_X4_share (cn (fun y9 : Nat => decide (v ≤ ms F (wt F R (y9 : Int)) c)) (2 ^ (Int.toNat (2 * F 3)))) (2 ^ (Int.toNat (2 * (F 3)))) which (show 0 ≤ (cn (fun y9 : Nat => decide (v ≤ ms F (wt F R (y9 : Int)) c)) (2 ^ (Int.toNat (2 * F 3)))) ∧ (cn (fun y9 : Nat => decide (v ≤ ms F (wt F R (y9 : Int)) c)) (2 ^ (Int.toNat (2 * F 3)))) ≤ 256 from (by omega)) (show 1 ≤ (2 ^ (Int.toNat (2 * (F 3)))) ∧ (2 ^ (Int.toNat (2 * (F 3)))) ≤ 256 from (by omega)) (show -2147483648 ≤ which ∧ which < 2147483648 from (by omega))) (va_cwS 3 C.2.2.2.2 gX4_odds_X4_share rfl rfl rfl (by decide +kernel) ⟨Nat.le_of_ble_eq_true rfl, Nat.le_of_ble_eq_true rfl⟩) (As := [.long (lI (cn (fun y9 : Nat => decide (v ≤ ms F (wt F R (y9 : Int)) c)) (2 ^ (Int.toNat (2 * F 3))))), .long (lI (2 ^ (Int.toNat (2 * (F 3))))), .int (iI (which))]) (v := .long (lI ((if which = 0 then (cn (fun y9 : Nat => decide (v ≤ ms F (wt F R (y9 : Int)) c)) (2 ^ (Int.toNat (2 * F 3)))) else (2 ^ (Int.toNat (2 * (F 3))))) / ((Nat.gcd (Int.toNat (cn (fun y9 : Nat => decide (v ≤ ms F (wt F R (y9 : Int)) c)) (2 ^ (Int.toNat (2 * F 3))))) (Int.toNat (2 ^ (Int.toNat (2 * (F 3))))) : Nat) : Int)))) (hn := rfl) (hst := rfl) (rest := []) (hW := Nat.le_of_ble_eq_true rfl) (hdg := dX4_odds_100) (hf := ⟨Nat.le_of_ble_eq_true rfl, Nat.le_of_ble_eq_true rfl⟩) ?_
              have hk9 : k_X4_odds F R c v which = ((if which = 0 then (cn (fun y9 : Nat => decide (v ≤ ms F (wt F R (y9 : Int)) c)) (2 ^ (Int.toNat (2 * F 3)))) else (2 ^ (Int.toNat (2 * (F 3))))) / ((Nat.gcd (Int.toNat (cn (fun y9 : Nat => decide (v ≤ ms F (wt F R (y9 : Int)) c)) (2 ^ (Int.toNat (2 * F 3))))) (Int.toNat (2 ^ (Int.toNat (2 * (F 3))))) : Nat) : Int), F, R) := by rw [k_X4_odds, (if_neg h5), (if_pos h17), (if_pos h27)]
              exact hret _ (F, R) _ _ _ _ dX4_odds_103 ⟨by rw [hk9], by rw [hk9], by rw [hk9]⟩ hP hS
            · skip
              refine lv_aload_n hx hb dX4_odds_55 rfl (lv_at hl 3 rfl) ?_
              refine lv_iload hx hb dX4_odds_56 (lv_at hl 0 rfl) ?_
              refine jw_V C hl.1 (jpreV hE hP 4 0 rfl rfl) (c_X4_turnAll (A := A) (jDM hD) (t : Int) hM.works (show 0 ≤ (t : Int) ∧ (t : Int) < 256 from (by omega))) (cwV 1 C.2.2.2.2 gX4_odds_X4_turnAll rfl rfl rfl (by decide +kernel) ⟨Nat.le_of_ble_eq_true rfl, Nat.le_of_ble_eq_true rfl⟩) (As := [.int (iI ((t : Int)))]) (hn := rfl) (hst := rfl) (rest := []) (hW := Nat.le_of_ble_eq_true rfl) (hdg := dX4_odds_58) (hf := ⟨Nat.le_of_ble_eq_true rfl, Nat.le_of_ble_eq_true rfl⟩) hS (fun v9 uq58 H lc hq9 hP hS => ?_)
              subst hq9
              have hP : va_P D vwCl (wM cI ad F (uR (uR R 6 (tA (F 3) s (R 6))) 6 (tA (F 3) (t : Int) (tA (F 3) s (R 6))))) H := hP
              have hP : va_P D vwCl (wM cI ad F (uR R 6 (tA (F 3) (t : Int) (R 6)))) H := by rw [uR_u, tA_tA] at hP; exact hP
              have hMt : MI F (uR R 6 (tA (F 3) (t : Int) (R 6))) := hM.wt
              have hms := ms_bd hMt (c := c)
              refine lv_lload hx hb dX4_odds_61 (lv_at hl 1 rfl) ?_
              refine lv_aload_n hx hb dX4_odds_63 rfl (lv_at hl 3 rfl) ?_
              refine lv_iload_n hx hb dX4_odds_64 rfl (lv_at hl 4 rfl) ?_
              refine jc_V C hl.1 (jpreV hE hP 4 0 rfl rfl) (c_X4_smellOf c hMt (show 0 ≤ c ∧ c < 24 from (by omega))) (cwV 1 C.2.2.2.2 gX4_odds_X4_smellOf rfl rfl rfl (by decide +kernel) ⟨Nat.le_of_ble_eq_true rfl, Nat.le_of_ble_eq_true rfl⟩) (As := [.int (iI (c))]) (v := .int (iI (ms F (uR R 6 (tA (F 3) (t : Int) (R 6))) c))) (hn := rfl) (hst := rfl) (rest := [.long (lI (cn (fun y9 : Nat => decide (v ≤ ms F (wt F R (y9 : Int)) c)) t))]) (hW := Nat.le_of_ble_eq_true rfl) (hdg := dX4_odds_65) (hf := ⟨Nat.le_of_ble_eq_true rfl, Nat.le_of_ble_eq_true rfl⟩) ?_
              refine lv_iload_n hx hb dX4_odds_68 rfl (lv_at hl 5 rfl) ?_
              refine jz_icmp_lt (tgt := 76) C dX4_odds_69 (by decide) (by omega) (fun h69 => ?_) (fun h69 => ?_)
              · skip
                refine jz_lconst (z := 0) C rfl dX4_odds_76 ?_
                refine jz_ladd C dX4_odds_77 ?_
                refine lv_lstore (lv' := [(5, .long (lI ((cn (fun y9 : Nat => decide (v ≤ ms F (wt F R (y9 : Int)) c)) t) + 0))), (7, .int (iI ((t : Int)))), (4, .int (iI (en (R 6) (Int.toNat (F 3))))), (0, .ref (ad 0)), (1, .int (iI (c))), (2, .int (iI (v))), (3, .int (iI (which)))]) hx hb dX4_odds_78 hl (by decide) rfl (fun ls hl => ?_)
                refine jz_iinc (k := 1) (z := (t : Int) + 1) (lv' := [(7, .int (iI ((t : Int) + 1))), (5, .long (lI ((cn (fun y9 : Nat => decide (v ≤ ms F (wt F R (y9 : Int)) c)) t) + 0))), (4, .int (iI (en (R 6) (Int.toNat (F 3))))), (0, .ref (ad 0)), (1, .int (iI (c))), (2, .int (iI (v))), (3, .int (iI (which)))]) C dX4_odds_80 hl rfl rfl (by decide) rfl (fun ls hl => ?_)
                refine lv_goto (tgt := 46) hx hb dX4_odds_83 (by decide) ?_
                have hpw := pwN (Int.toNat (2 * F 3))
                have hl9 : lv_has ls 8 [(7, .int (iI ((t + 1 : Int)))), (5, .long (lI (cn (fun y9 : Nat => decide (v ≤ ms F (wt F R (y9 : Int)) c)) (t + 1)))), (4, .int (iI (en (R 6) (Int.toNat (F 3))))), (0, .ref (ad 0)), (1, .int (iI (c))), (2, .int (iI (v))), (3, .int (iI (which)))] := by
                  rw [show (cn (fun y9 : Nat => decide (v ≤ ms F (wt F R (y9 : Int)) c)) (t + 1) : Int) = (cn (fun y9 : Nat => decide (v ≤ ms F (wt F R (y9 : Int)) c)) t) + 0 from by first | exact cn_t (P := (fun y9 : Nat => decide (v ≤ ms F (wt F R (y9 : Int)) c))) (n := t) (decide_eq_true h69) | exact (cn_f (P := (fun y9 : Nat => decide (v ≤ ms F (wt F R (y9 : Int)) c))) (n := t) (fun q => absurd (of_decide_eq_true q) (Int.not_le.mpr h69))).trans (Int.add_zero _).symm]
                  exact lv_sub hl [0, 1, 2, 3, 4, 5, 6] rfl
                exact ih46 (t + 1) (t : Int) (by omega) (by omega) _ _ hP hS ls hl9
              · skip
                refine jz_lconst (z := 1) C rfl dX4_odds_72 ?_
                refine lv_goto (tgt := 77) hx hb dX4_odds_73 (by decide) ?_
                refine jz_ladd C dX4_odds_77 ?_
                refine lv_lstore (lv' := [(5, .long (lI ((cn (fun y9 : Nat => decide (v ≤ ms F (wt F R (y9 : Int)) c)) t) + 1))), (7, .int (iI ((t : Int)))), (4, .int (iI (en (R 6) (Int.toNat (F 3))))), (0, .ref (ad 0)), (1, .int (iI (c))), (2, .int (iI (v))), (3, .int (iI (which)))]) hx hb dX4_odds_78 hl (by decide) rfl (fun ls hl => ?_)
                refine jz_iinc (k := 1) (z := (t : Int) + 1) (lv' := [(7, .int (iI ((t : Int) + 1))), (5, .long (lI ((cn (fun y9 : Nat => decide (v ≤ ms F (wt F R (y9 : Int)) c)) t) + 1))), (4, .int (iI (en (R 6) (Int.toNat (F 3))))), (0, .ref (ad 0)), (1, .int (iI (c))), (2, .int (iI (v))), (3, .int (iI (which)))]) C dX4_odds_80 hl rfl rfl (by decide) rfl (fun ls hl => ?_)
                refine lv_goto (tgt := 46) hx hb dX4_odds_83 (by decide) ?_
                have hpw := pwN (Int.toNat (2 * F 3))
                have hl9 : lv_has ls 8 [(7, .int (iI ((t + 1 : Int)))), (5, .long (lI (cn (fun y9 : Nat => decide (v ≤ ms F (wt F R (y9 : Int)) c)) (t + 1)))), (4, .int (iI (en (R 6) (Int.toNat (F 3))))), (0, .ref (ad 0)), (1, .int (iI (c))), (2, .int (iI (v))), (3, .int (iI (which)))] := by
                  rw [show (cn (fun y9 : Nat => decide (v ≤ ms F (wt F R (y9 : Int)) c)) (t + 1) : Int) = (cn (fun y9 : Nat => decide (v ≤ ms F (wt F R (y9 : Int)) c)) t) + 1 from by first | exact cn_t (P := (fun y9 : Nat => decide (v ≤ ms F (wt F R (y9 : Int)) c))) (n := t) (decide_eq_true h69) | exact (cn_f (P := (fun y9 : Nat => decide (v ≤ ms F (wt F R (y9 : Int)) c))) (n := t) (fun q => absurd (of_decide_eq_true q) (Int.not_le.mpr h69))).trans (Int.add_zero _).symm]
                  exact lv_sub hl [0, 1, 2, 3, 4, 5, 6] rfl
                exact ih46 (t + 1) (t : Int) (by omega) (by omega) _ _ hP hS ls hl9
        exact key46 (Int.toNat ((2 ^ (Int.toNat (2 * F 3))) - (0 : Int)) + 1) 0 (en (R 6) (Int.toNat (F 3))) (by omega) (by omega) _ _ (by rw [show uR R 6 (tA (F 3) (en (R 6) (Int.toNat (F 3))) (R 6)) = R from wt_en hM]; exact hP) hS ls (lv_sub hl [0, 1, 2, 3, 4, 5, 6] rfl)
      · skip
        refine jc_S C hl.1 (jpreS hE hP) (c_X4_lost  ) (va_cwS 0 C.2.2.2.2 gX4_odds_X4_lost rfl rfl rfl (by decide +kernel) ⟨Nat.le_of_ble_eq_true rfl, Nat.le_of_ble_eq_true rfl⟩) (As := []) (v := .long (lI (-9223372036854775808))) (hn := rfl) (hst := rfl) (rest := []) (hW := Nat.le_of_ble_eq_true rfl) (hdg := dX4_odds_30) (hf := ⟨Nat.le_of_ble_eq_true rfl, Nat.le_of_ble_eq_true rfl⟩) ?_
        have hk9 : k_X4_odds F R c v which = (-9223372036854775808, F, R) := by rw [k_X4_odds, (if_neg h5), (if_pos h17), (if_neg h27)]
        exact hret _ (F, R) _ _ _ _ dX4_odds_33 ⟨by rw [hk9], by rw [hk9], by rw [hk9]⟩ hP hS
def k_X4_sheet (F : Nat → Int) (R : Nat → Nat → Int) (k : Int) (lane : Int) (n : Int) : Int × (Nat → Int) × (Nat → Nat → Int) := if ¬ (0 ≤ k ∧ k ≤ 3) then (((-1), (u1 F 0 0), R)) else (if 0 ≤ lane ∧ lane ≤ 2 then (if 60 < n then (((-2), (u1 F 0 0), R)) else (if n < 0 then (((-10) - 4, (u1 F 0 4), R)) else ((1, (u1 F 0 0), (uR (uR (uR R 27 (u1 (R 27) (Int.toNat k) n)) 28 (u1 (R 28) (Int.toNat k) lane)) 29 (zb (R 29) (Int.toNat (60 * k)) (Int.toNat n))))))) else (((-2), (u1 F 0 0), R)))
abbrev rm_X4_sheet : Room := { frames := 2, cells := 0, slots := 0, locals := 45 }
set_option maxHeartbeats 4000000 in
set_option maxRecDepth 100000 in
theorem c_X4_sheet {l : Launch} {D : va_G} {cI cS : ClassId} {ad : Nat → Nat} {F : Nat → Int} {R : Nat → Nat → Int} {A : Nat → Prop} (hD : va_D A (wM cI ad F R))  (k : Int) (lane : Int) (n : Int)  (hS9 : MV F R) (hr_k : -2147483648 ≤ k ∧ k < 2147483648) (hr_lane : -2147483648 ≤ lane ∧ lane < 2147483648) (hr_n : -2147483648 ≤ n ∧ n < 2147483648): JV l yX4_sheet wsX4_sheet rm_X4_sheet (jB D cI cS (wM cI ad F R)) A [.ref (ad 0), .int (iI (k)), .int (iI (lane)), .int (iI (n))] (fun v9 (u9 : (Nat → Int) × (Nat → Nat → Int)) => v9 = some (.int (iI (k_X4_sheet F R k lane n).1)) ∧ u9.1 = (k_X4_sheet F R k lane n).2.1 ∧ u9.2 = (k_X4_sheet F R k lane n).2.2) (fun u9 H => va_P D vwCl (wM cI ad u9.1 u9.2) H) := by
  refine JV.mkI rfl (by decide +kernel) rfl (Nat.le_of_ble_eq_true rfl) ?_
  intro p e st mi ar bl mth cd Q ls C hB hl hret
  obtain ⟨hE, hP⟩ := hB
  have hx := C.1
  have hb := C.2.1
  have hl : lv_has ls 5 [(0, .ref (ad 0)), (1, .int (iI (k))), (2, .int (iI (lane))), (3, .int (iI (n)))] := hl
  have hin4 : ∀ w ∈ wsX40, w ∈ wsX4_sheet := fun _ h => List.mem_cons_of_mem _ (List.mem_append_right _ h)
  suffices hgo : ∀ (H : Heap) (lc : List Loc), va_P D vwCl (wM cI ad F R) H → va_S A st.heap H lc → W p l e rm_X4_sheet st mi ar bl mth cd H lc 0 0 Q (F0 mi 0 ls []) from hgo _ _ hP va_S.rf
  clear hP
  intro H lc hP hS
  have hM := hS9.town
  have hW := hM.works
  have hK := hM.wards
  have hlaw := hM.law
  have hrd := hM.reads
  have hsp := hM.spots
  have hhi := hM.high
  have hwd := hM.wide
  have hP8 := pw8 hW
  have hen := en_bd4 hW hM.vane
  refine lv_iload_n hx hb dX4_sheet_0 rfl (lv_at hl 1 rfl) ?_
  refine jc_S C hl.1 (jpreS hE hP) (c_X4_noSheet k (show -2147483648 ≤ k ∧ k < 2147483648 from (by omega))) (va_cwS 1 C.2.2.2.2 gX4_sheet_X4_noSheet rfl rfl rfl (by decide +kernel) ⟨Nat.le_of_ble_eq_true rfl, Nat.le_of_ble_eq_true rfl⟩) (As := [.int (iI (k))]) (v := .int (iI (if ¬ (0 ≤ k ∧ k ≤ 3) then 1 else 0))) (hn := rfl) (hst := rfl) (rest := []) (hW := Nat.le_of_ble_eq_true rfl) (hdg := dX4_sheet_1) (hf := ⟨Nat.le_of_ble_eq_true rfl, Nat.le_of_ble_eq_true rfl⟩) ?_
  refine jz_bool_eq (tgt := 13) C dX4_sheet_4 (by decide) (fun h4 => ?_) (fun h4 => ?_)
  · skip
    refine lv_iload_n hx hb dX4_sheet_13 rfl (lv_at hl 2 rfl) ?_
    refine jz_i2l C dX4_sheet_14 (by omega) ?_
    refine jz_lconst (z := 0) C rfl dX4_sheet_15 ?_
    refine jz_ldc2 (z := 2) C (List.mem_of_getElem? (i := 1) rfl) (by decide +kernel) dX4_sheet_16 ?_
    refine jc_S C hl.1 (jpreS hE hP) (c_X4_in lane 0 2 (show -9223372036854775808 ≤ lane ∧ lane < 9223372036854775808 from (by omega)) (show -9223372036854775808 ≤ 0 ∧ 0 < 9223372036854775808 from (by omega)) (show -9223372036854775808 ≤ 2 ∧ 2 < 9223372036854775808 from (by omega))) (va_cwS 3 C.2.2.2.2 gX4_sheet_X4_in rfl rfl rfl (by decide +kernel) ⟨Nat.le_of_ble_eq_true rfl, Nat.le_of_ble_eq_true rfl⟩) (As := [.long (lI (lane)), .long (lI (0)), .long (lI (2))]) (v := .int (iI (if 0 ≤ lane ∧ lane ≤ 2 then 1 else 0))) (hn := rfl) (hst := rfl) (rest := []) (hW := Nat.le_of_ble_eq_true rfl) (hdg := dX4_sheet_19) (hf := ⟨Nat.le_of_ble_eq_true rfl, Nat.le_of_ble_eq_true rfl⟩) ?_
    refine jz_bool_eq (tgt := 31) C dX4_sheet_22 (by decide) (fun h22 => ?_) (fun h22 => ?_)
    · skip
      refine lv_aload_n hx hb dX4_sheet_31 rfl (lv_at hl 0 rfl) ?_
      refine jz_bipush C dX4_sheet_32 (by decide +kernel) ?_
      refine jw_V C hl.1 (jpreV hE hP 4 0 rfl rfl) (c_X4_refused (A := A) (jDM hD) (-2) ) (cwV 1 C.2.2.2.2 gX4_sheet_X4_refused rfl rfl rfl (by decide +kernel) ⟨Nat.le_of_ble_eq_true rfl, Nat.le_of_ble_eq_true rfl⟩) (As := [.int (iI (-2))]) (hn := rfl) (hst := rfl) (rest := []) (hW := Nat.le_of_ble_eq_true rfl) (hdg := dX4_sheet_34) (hf := ⟨Nat.le_of_ble_eq_true rfl, Nat.le_of_ble_eq_true rfl⟩) hS (fun v9 uq34 H lc hq9 hP hS => ?_)
      obtain rfl : v9 = some (.int (iI ((-2)))) := hq9
      have hP : va_P D vwCl (wM cI ad (u1 F 0 0) R) H := hP
      have hk9 : k_X4_sheet F R k lane n = ((-2), (u1 F 0 0), R) := by rw [k_X4_sheet, (if_neg h4), (if_neg h22)]
      exact hret _ ((u1 F 0 0), R) _ _ _ _ dX4_sheet_37 ⟨by rw [hk9], by rw [hk9], by rw [hk9]⟩ hP hS
    · skip
      refine lv_iload_n hx hb dX4_sheet_25 rfl (lv_at hl 3 rfl) ?_
      refine jz_bipush C dX4_sheet_26 (by decide +kernel) ?_
      refine jz_icmp_le (tgt := 38) C dX4_sheet_28 (by decide) (by omega) (fun h28 => ?_) (fun h28 => ?_)
      · skip
        refine lv_iload_n hx hb dX4_sheet_38 rfl (lv_at hl 3 rfl) ?_
        refine jz_if_ge (tgt := 48) C dX4_sheet_39 (by decide) (by omega) (fun h39 => ?_) (fun h39 => ?_)
        · skip
          refine lv_aload_n hx hb dX4_sheet_48 rfl (lv_at hl 0 rfl) ?_
          refine fg_M_sheetSize C hin4 hE hP (List.mem_of_getElem? (i := 2) rfl) dX4_sheet_49 ?_
          refine lv_iload_n hx hb dX4_sheet_52 rfl (lv_at hl 1 rfl) ?_
          refine lv_iload_n hx hb dX4_sheet_53 rfl (lv_at hl 3 rfl) ?_
          refine fs_M_sheetSize C hE hP (jDM hD) hS dX4_sheet_54 (by omega) (fun H lc hP hS => ?_)
          refine lv_aload_n hx hb dX4_sheet_55 rfl (lv_at hl 0 rfl) ?_
          refine fg_M_sheetLane C hin4 hE hP (List.mem_of_getElem? (i := 3) rfl) dX4_sheet_56 ?_
          refine lv_iload_n hx hb dX4_sheet_59 rfl (lv_at hl 1 rfl) ?_
          refine lv_iload_n hx hb dX4_sheet_60 rfl (lv_at hl 2 rfl) ?_
          refine fs_M_sheetLane C hE hP (jDM hD) hS dX4_sheet_61 (by omega) (fun H lc hP hS => ?_)
          refine jz_const C dX4_sheet_62 ?_
          refine lv_istore (lv' := [(4, .int (iI (0))), (0, .ref (ad 0)), (1, .int (iI (k))), (2, .int (iI (lane))), (3, .int (iI (n)))]) hx hb dX4_sheet_63 hl (by decide) rfl (fun ls hl => ?_)
          have key65 : ∀ (n65 : Nat) (i : Nat) (hi9 : (i : Int) ≤ n), (n - (i : Int) : Int) < n65 → ∀ (H : Heap) (lc : List Loc), va_P D vwCl (wM cI ad F (uR (uR (uR R 27 (u1 (R 27) (Int.toNat k) n)) 28 (u1 (R 28) (Int.toNat k) lane)) 29 (zb (R 29) (Int.toNat (60 * k)) i))) H → va_S A st.heap H lc → ∀ (ls : Array Slot), lv_has ls 5 [(4, .int (iI ((i : Int)))), (0, .ref (ad 0)), (1, .int (iI (k))), (2, .int (iI (lane))), (3, .int (iI (n)))] → W p l e rm_X4_sheet st mi ar bl mth cd H lc 0 0 Q (F0 mi 65 ls []) := by
            intro n65
            induction n65 with
            | zero => intro i hi9 hn9; exfalso; omega
            | succ n65 ih65 =>
              intro i hi9 hn9 H lc hP hS ls hl
              refine lv_iload hx hb dX4_sheet_65 (lv_at hl 0 rfl) ?_
              refine lv_iload_n hx hb dX4_sheet_67 rfl (lv_at hl 4 rfl) ?_
              refine jz_icmp_ge (tgt := 90) C dX4_sheet_68 (by decide) (by omega) (fun h68 => ?_) (fun h68 => ?_)
              · skip
                have hg9 : i = Int.toNat n := (by omega)
                subst hg9
                have hl : lv_has ls 5 [(0, .ref (ad 0)), (1, .int (iI (k))), (2, .int (iI (lane))), (3, .int (iI (n)))] := lv_sub hl [1, 2, 3, 4] rfl
                refine lv_aload_n hx hb dX4_sheet_90 rfl (lv_at hl 0 rfl) ?_
                refine jz_const C dX4_sheet_91 ?_
                refine jw_V C hl.1 (jpreV hE hP 4 0 rfl rfl) (c_X4_refused (A := A) (jDM hD) 1 ) (cwV 1 C.2.2.2.2 gX4_sheet_X4_refused rfl rfl rfl (by decide +kernel) ⟨Nat.le_of_ble_eq_true rfl, Nat.le_of_ble_eq_true rfl⟩) (As := [.int (iI (1))]) (hn := rfl) (hst := rfl) (rest := []) (hW := Nat.le_of_ble_eq_true rfl) (hdg := dX4_sheet_92) (hf := ⟨Nat.le_of_ble_eq_true rfl, Nat.le_of_ble_eq_true rfl⟩) hS (fun v9 uq92 H lc hq9 hP hS => ?_)
                obtain rfl : v9 = some (.int (iI (1))) := hq9
                have hP : va_P D vwCl (wM cI ad (u1 F 0 0) (uR (uR (uR R 27 (u1 (R 27) (Int.toNat k) n)) 28 (u1 (R 28) (Int.toNat k) lane)) 29 (zb (R 29) (Int.toNat (60 * k)) (Int.toNat n)))) H := hP
                have hk9 : k_X4_sheet F R k lane n = (1, (u1 F 0 0), (uR (uR (uR R 27 (u1 (R 27) (Int.toNat k) n)) 28 (u1 (R 28) (Int.toNat k) lane)) 29 (zb (R 29) (Int.toNat (60 * k)) (Int.toNat n)))) := by rw [k_X4_sheet, (if_neg h4), (if_pos h22), (if_neg (Int.not_lt.mpr h28)), (if_neg (Int.not_lt.mpr h39))]
                exact hret _ ((u1 F 0 0), (uR (uR (uR R 27 (u1 (R 27) (Int.toNat k) n)) 28 (u1 (R 28) (Int.toNat k) lane)) 29 (zb (R 29) (Int.toNat (60 * k)) (Int.toNat n)))) _ _ _ _ dX4_sheet_95 ⟨by rw [hk9], by rw [hk9], by rw [hk9]⟩ hP hS
              · skip
                refine lv_aload_n hx hb dX4_sheet_71 rfl (lv_at hl 1 rfl) ?_
                refine fg_M_sheet C hin4 hE hP (List.mem_of_getElem? (i := 4) rfl) dX4_sheet_72 ?_
                refine jz_bipush C dX4_sheet_75 (by decide +kernel) ?_
                refine lv_iload_n hx hb dX4_sheet_77 rfl (lv_at hl 2 rfl) ?_
                refine jz_imul C dX4_sheet_78 ?_
                refine lv_iload hx hb dX4_sheet_79 (lv_at hl 0 rfl) ?_
                refine jz_iadd C dX4_sheet_81 ?_
                refine jz_const C dX4_sheet_82 ?_
                refine fs_M_sheet C hE hP (jDM hD) hS dX4_sheet_83 (by omega) (fun H lc hP hS => ?_)
                refine jz_iinc (k := 0) (z := (i : Int) + 1) (lv' := [(4, .int (iI ((i : Int) + 1))), (0, .ref (ad 0)), (1, .int (iI (k))), (2, .int (iI (lane))), (3, .int (iI (n)))]) C dX4_sheet_84 hl rfl rfl (by decide) rfl (fun ls hl => ?_)
                refine lv_goto (tgt := 65) hx hb dX4_sheet_87 (by decide) ?_
                exact ih65 (i + 1) (by omega) (by omega) _ _ (by rw [uR_u, uR_q, zb_s (by omega)] at hP; exact hP) hS ls (lv_sub hl [0, 1, 2, 3, 4] rfl)
          exact key65 (Int.toNat (n - (0 : Int)) + 1) 0 (by omega) (by omega) _ _ (by rw [zb_0, show uR (uR (uR R 27 (u1 (R 27) (Int.toNat k) n)) 28 (u1 (R 28) (Int.toNat k) lane)) 29 (R 29) = (uR (uR R 27 (u1 (R 27) (Int.toNat k) n)) 28 (u1 (R 28) (Int.toNat k) lane)) from uR_id (R := (uR (uR R 27 (u1 (R 27) (Int.toNat k) n)) 28 (u1 (R 28) (Int.toNat k) lane)))]; exact hP) hS ls (lv_sub hl [0, 1, 2, 3, 4] rfl)
        · skip
          refine lv_aload_n hx hb dX4_sheet_42 rfl (lv_at hl 0 rfl) ?_
          refine jz_const C dX4_sheet_43 ?_
          refine jw_V C hl.1 (jpreV hE hP 4 0 rfl rfl) (c_X4_failed (A := A) (jDM hD) 4 ) (cwV 1 C.2.2.2.2 gX4_sheet_X4_failed rfl rfl rfl (by decide +kernel) ⟨Nat.le_of_ble_eq_true rfl, Nat.le_of_ble_eq_true rfl⟩) (As := [.int (iI (4))]) (hn := rfl) (hst := rfl) (rest := []) (hW := Nat.le_of_ble_eq_true rfl) (hdg := dX4_sheet_44) (hf := ⟨Nat.le_of_ble_eq_true rfl, Nat.le_of_ble_eq_true rfl⟩) hS (fun v9 uq44 H lc hq9 hP hS => ?_)
          obtain rfl : v9 = some (.int (iI ((-10) - 4))) := hq9
          have hP : va_P D vwCl (wM cI ad (u1 F 0 4) R) H := hP
          have hk9 : k_X4_sheet F R k lane n = ((-10) - 4, (u1 F 0 4), R) := by rw [k_X4_sheet, (if_neg h4), (if_pos h22), (if_neg (Int.not_lt.mpr h28)), (if_pos h39)]
          exact hret _ ((u1 F 0 4), R) _ _ _ _ dX4_sheet_47 ⟨by rw [hk9], by rw [hk9], by rw [hk9]⟩ hP hS
      · skip
        refine lv_aload_n hx hb dX4_sheet_31 rfl (lv_at hl 0 rfl) ?_
        refine jz_bipush C dX4_sheet_32 (by decide +kernel) ?_
        refine jw_V C hl.1 (jpreV hE hP 4 0 rfl rfl) (c_X4_refused (A := A) (jDM hD) (-2) ) (cwV 1 C.2.2.2.2 gX4_sheet_X4_refused rfl rfl rfl (by decide +kernel) ⟨Nat.le_of_ble_eq_true rfl, Nat.le_of_ble_eq_true rfl⟩) (As := [.int (iI (-2))]) (hn := rfl) (hst := rfl) (rest := []) (hW := Nat.le_of_ble_eq_true rfl) (hdg := dX4_sheet_34) (hf := ⟨Nat.le_of_ble_eq_true rfl, Nat.le_of_ble_eq_true rfl⟩) hS (fun v9 uq34 H lc hq9 hP hS => ?_)
        obtain rfl : v9 = some (.int (iI ((-2)))) := hq9
        have hP : va_P D vwCl (wM cI ad (u1 F 0 0) R) H := hP
        have hk9 : k_X4_sheet F R k lane n = ((-2), (u1 F 0 0), R) := by rw [k_X4_sheet, (if_neg h4), (if_pos h22), (if_pos h28)]
        exact hret _ ((u1 F 0 0), R) _ _ _ _ dX4_sheet_37 ⟨by rw [hk9], by rw [hk9], by rw [hk9]⟩ hP hS
  · skip
    refine lv_aload_n hx hb dX4_sheet_7 rfl (lv_at hl 0 rfl) ?_
    refine jz_const C dX4_sheet_8 ?_
    refine jw_V C hl.1 (jpreV hE hP 4 0 rfl rfl) (c_X4_refused (A := A) (jDM hD) (-1) ) (cwV 1 C.2.2.2.2 gX4_sheet_X4_refused rfl rfl rfl (by decide +kernel) ⟨Nat.le_of_ble_eq_true rfl, Nat.le_of_ble_eq_true rfl⟩) (As := [.int (iI (-1))]) (hn := rfl) (hst := rfl) (rest := []) (hW := Nat.le_of_ble_eq_true rfl) (hdg := dX4_sheet_9) (hf := ⟨Nat.le_of_ble_eq_true rfl, Nat.le_of_ble_eq_true rfl⟩) hS (fun v9 uq9 H lc hq9 hP hS => ?_)
    obtain rfl : v9 = some (.int (iI ((-1)))) := hq9
    have hP : va_P D vwCl (wM cI ad (u1 F 0 0) R) H := hP
    have hk9 : k_X4_sheet F R k lane n = ((-1), (u1 F 0 0), R) := by rw [k_X4_sheet, (if_pos h4)]
    exact hret _ ((u1 F 0 0), R) _ _ _ _ dX4_sheet_12 ⟨by rw [hk9], by rw [hk9], by rw [hk9]⟩ hP hS
def k_X4_put (F : Nat → Int) (R : Nat → Nat → Int) (k : Int) (i : Int) (v : Int) : Int × (Nat → Int) × (Nat → Nat → Int) := if ¬ (0 ≤ k ∧ k ≤ 3) then (((-1), (u1 F 0 0), R)) else (if 0 < (nc (R 27 (Int.toNat k)) i) then (((-10) - (nc (R 27 (Int.toNat k)) i), (u1 F 0 (nc (R 27 (Int.toNat k)) i)), R)) else (if (R 28 (Int.toNat k)) = 0 then ((1, (u1 F 0 0), (uR R 29 (u1 (R 29) (Int.toNat ((60 * k) + i)) (bz v))))) else (if (R 28 (Int.toNat k)) = 1 then ((1, (u1 F 0 0), (uR R 29 (u1 (R 29) (Int.toNat ((60 * k) + i)) (sz v))))) else ((1, (u1 F 0 0), (uR R 29 (u1 (R 29) (Int.toNat ((60 * k) + i)) v)))))))
abbrev rm_X4_put : Room := { frames := 2, cells := 0, slots := 0, locals := 47 }
set_option maxHeartbeats 4000000 in
set_option maxRecDepth 100000 in
theorem c_X4_put {l : Launch} {D : va_G} {cI cS : ClassId} {ad : Nat → Nat} {F : Nat → Int} {R : Nat → Nat → Int} {A : Nat → Prop} (hD : va_D A (wM cI ad F R))  (k : Int) (i : Int) (v : Int)  (hS9 : MV F R) (hr_k : -2147483648 ≤ k ∧ k < 2147483648) (hr_i : -2147483648 ≤ i ∧ i < 2147483648) (hr_v : -2147483648 ≤ v ∧ v < 2147483648): JV l yX4_put wsX4_put rm_X4_put (jB D cI cS (wM cI ad F R)) A [.ref (ad 0), .int (iI (k)), .int (iI (i)), .int (iI (v))] (fun v9 (u9 : (Nat → Int) × (Nat → Nat → Int)) => v9 = some (.int (iI (k_X4_put F R k i v).1)) ∧ u9.1 = (k_X4_put F R k i v).2.1 ∧ u9.2 = (k_X4_put F R k i v).2.2) (fun u9 H => va_P D vwCl (wM cI ad u9.1 u9.2) H) := by
  refine JV.mkI rfl (by decide +kernel) rfl (Nat.le_of_ble_eq_true rfl) ?_
  intro p e st mi ar bl mth cd Q ls C hB hl hret
  obtain ⟨hE, hP⟩ := hB
  have hx := C.1
  have hb := C.2.1
  have hl : lv_has ls 4 [(0, .ref (ad 0)), (1, .int (iI (k))), (2, .int (iI (i))), (3, .int (iI (v)))] := hl
  have hin4 : ∀ w ∈ wsX40, w ∈ wsX4_put := fun _ h => List.mem_cons_of_mem _ (List.mem_append_right _ h)
  suffices hgo : ∀ (H : Heap) (lc : List Loc), va_P D vwCl (wM cI ad F R) H → va_S A st.heap H lc → W p l e rm_X4_put st mi ar bl mth cd H lc 0 0 Q (F0 mi 0 ls []) from hgo _ _ hP va_S.rf
  clear hP
  intro H lc hP hS
  have hM := hS9.town
  have hW := hM.works
  have hK := hM.wards
  have hlaw := hM.law
  have hrd := hM.reads
  have hsp := hM.spots
  have hhi := hM.high
  have hwd := hM.wide
  have hP8 := pw8 hW
  have hen := en_bd4 hW hM.vane
  refine lv_iload_n hx hb dX4_put_0 rfl (lv_at hl 1 rfl) ?_
  refine jc_S C hl.1 (jpreS hE hP) (c_X4_noSheet k (show -2147483648 ≤ k ∧ k < 2147483648 from (by omega))) (va_cwS 1 C.2.2.2.2 gX4_put_X4_noSheet rfl rfl rfl (by decide +kernel) ⟨Nat.le_of_ble_eq_true rfl, Nat.le_of_ble_eq_true rfl⟩) (As := [.int (iI (k))]) (v := .int (iI (if ¬ (0 ≤ k ∧ k ≤ 3) then 1 else 0))) (hn := rfl) (hst := rfl) (rest := []) (hW := Nat.le_of_ble_eq_true rfl) (hdg := dX4_put_1) (hf := ⟨Nat.le_of_ble_eq_true rfl, Nat.le_of_ble_eq_true rfl⟩) ?_
  refine jz_bool_eq (tgt := 13) C dX4_put_4 (by decide) (fun h4 => ?_) (fun h4 => ?_)
  · skip
    have hnc := nc_bd (R 27 (Int.toNat k)) i
    have hsz := hS9.size (k := Int.toNat k) (by omega)
    have hln := hS9.lane (k := Int.toNat k) (by omega)
    refine lv_aload_n hx hb dX4_put_13 rfl (lv_at hl 0 rfl) ?_
    refine lv_iload_n hx hb dX4_put_14 rfl (lv_at hl 1 rfl) ?_
    refine lv_iload_n hx hb dX4_put_15 rfl (lv_at hl 2 rfl) ?_
    refine jc_V C hl.1 (jpreV hE hP 4 0 rfl rfl) (c_X4_noCell k i (show 0 ≤ k ∧ k ≤ 3 from (by omega)) (show -2147483648 ≤ i ∧ i < 2147483648 from (by omega)) (hS9.size (by omega))) (cwV 2 C.2.2.2.2 gX4_put_X4_noCell rfl rfl rfl (by decide +kernel) ⟨Nat.le_of_ble_eq_true rfl, Nat.le_of_ble_eq_true rfl⟩) (As := [.int (iI (k)), .int (iI (i))]) (v := .int (iI (nc (R 27 (Int.toNat k)) i))) (hn := rfl) (hst := rfl) (rest := []) (hW := Nat.le_of_ble_eq_true rfl) (hdg := dX4_put_16) (hf := ⟨Nat.le_of_ble_eq_true rfl, Nat.le_of_ble_eq_true rfl⟩) ?_
    refine jz_if_le (tgt := 33) C dX4_put_19 (by decide) (by omega) (fun h19 => ?_) (fun h19 => ?_)
    · skip
      have hix := nc_0 h19
      refine lv_aload_n hx hb dX4_put_33 rfl (lv_at hl 0 rfl) ?_
      refine fg_M_sheet C hin4 hE hP (List.mem_of_getElem? (i := 1) rfl) dX4_put_34 ?_
      refine jz_bipush C dX4_put_37 (by decide +kernel) ?_
      refine lv_iload_n hx hb dX4_put_39 rfl (lv_at hl 1 rfl) ?_
      refine jz_imul C dX4_put_40 ?_
      refine lv_iload_n hx hb dX4_put_41 rfl (lv_at hl 2 rfl) ?_
      refine jz_iadd C dX4_put_42 ?_
      refine lv_aload_n hx hb dX4_put_43 rfl (lv_at hl 0 rfl) ?_
      refine fg_M_sheetLane C hin4 hE hP (List.mem_of_getElem? (i := 2) rfl) dX4_put_44 ?_
      refine lv_iload_n hx hb dX4_put_47 rfl (lv_at hl 1 rfl) ?_
      refine fl_M_sheetLane C hE hP (v := R 28 (Int.toNat k)) dX4_put_48 (by omega) rfl ?_
      refine jz_if_ne (tgt := 57) C dX4_put_49 (by decide) (by omega) (fun h49 => ?_) (fun h49 => ?_)
      · skip
        refine lv_aload_n hx hb dX4_put_57 rfl (lv_at hl 0 rfl) ?_
        refine fg_M_sheetLane C hin4 hE hP (List.mem_of_getElem? (i := 2) rfl) dX4_put_58 ?_
        refine lv_iload_n hx hb dX4_put_61 rfl (lv_at hl 1 rfl) ?_
        refine fl_M_sheetLane C hE hP (v := R 28 (Int.toNat k)) dX4_put_62 (by omega) rfl ?_
        refine jz_const C dX4_put_63 ?_
        refine jz_icmp_ne (tgt := 72) C dX4_put_64 (by decide) (by omega) (fun h64 => ?_) (fun h64 => ?_)
        · skip
          refine lv_iload_n hx hb dX4_put_72 rfl (lv_at hl 3 rfl) ?_
          refine fs_M_sheet C hE hP (jDM hD) hS dX4_put_73 (by omega) (fun H lc hP hS => ?_)
          refine lv_aload_n hx hb dX4_put_74 rfl (lv_at hl 0 rfl) ?_
          refine jz_const C dX4_put_75 ?_
          refine jw_V C hl.1 (jpreV hE hP 4 0 rfl rfl) (c_X4_refused (A := A) (jDM hD) 1 ) (cwV 1 C.2.2.2.2 gX4_put_X4_refused rfl rfl rfl (by decide +kernel) ⟨Nat.le_of_ble_eq_true rfl, Nat.le_of_ble_eq_true rfl⟩) (As := [.int (iI (1))]) (hn := rfl) (hst := rfl) (rest := []) (hW := Nat.le_of_ble_eq_true rfl) (hdg := dX4_put_76) (hf := ⟨Nat.le_of_ble_eq_true rfl, Nat.le_of_ble_eq_true rfl⟩) hS (fun v9 uq76 H lc hq9 hP hS => ?_)
          obtain rfl : v9 = some (.int (iI (1))) := hq9
          have hP : va_P D vwCl (wM cI ad (u1 F 0 0) (uR R 29 (u1 (R 29) (Int.toNat ((60 * k) + i)) v))) H := hP
          have hk9 : k_X4_put F R k i v = (1, (u1 F 0 0), (uR R 29 (u1 (R 29) (Int.toNat ((60 * k) + i)) v))) := by rw [k_X4_put, (if_neg h4), (if_neg (Int.not_lt.mpr h19)), (if_neg (h49)), (if_neg (h64))]
          exact hret _ ((u1 F 0 0), (uR R 29 (u1 (R 29) (Int.toNat ((60 * k) + i)) v))) _ _ _ _ dX4_put_79 ⟨by rw [hk9], by rw [hk9], by rw [hk9]⟩ hP hS
        · skip
          refine lv_iload_n hx hb dX4_put_67 rfl (lv_at hl 3 rfl) ?_
          refine lv_i2s hx hb dX4_put_68 rfl ?_
          rw [← sz_e]
          refine lv_goto (tgt := 73) hx hb dX4_put_69 (by decide) ?_
          refine fs_M_sheet C hE hP (jDM hD) hS dX4_put_73 (by omega) (fun H lc hP hS => ?_)
          refine lv_aload_n hx hb dX4_put_74 rfl (lv_at hl 0 rfl) ?_
          refine jz_const C dX4_put_75 ?_
          refine jw_V C hl.1 (jpreV hE hP 4 0 rfl rfl) (c_X4_refused (A := A) (jDM hD) 1 ) (cwV 1 C.2.2.2.2 gX4_put_X4_refused rfl rfl rfl (by decide +kernel) ⟨Nat.le_of_ble_eq_true rfl, Nat.le_of_ble_eq_true rfl⟩) (As := [.int (iI (1))]) (hn := rfl) (hst := rfl) (rest := []) (hW := Nat.le_of_ble_eq_true rfl) (hdg := dX4_put_76) (hf := ⟨Nat.le_of_ble_eq_true rfl, Nat.le_of_ble_eq_true rfl⟩) hS (fun v9 uq76 H lc hq9 hP hS => ?_)
          obtain rfl : v9 = some (.int (iI (1))) := hq9
          have hP : va_P D vwCl (wM cI ad (u1 F 0 0) (uR R 29 (u1 (R 29) (Int.toNat ((60 * k) + i)) (sz v)))) H := hP
          have hk9 : k_X4_put F R k i v = (1, (u1 F 0 0), (uR R 29 (u1 (R 29) (Int.toNat ((60 * k) + i)) (sz v)))) := by rw [k_X4_put, (if_neg h4), (if_neg (Int.not_lt.mpr h19)), (if_neg (h49)), (if_pos h64)]
          exact hret _ ((u1 F 0 0), (uR R 29 (u1 (R 29) (Int.toNat ((60 * k) + i)) (sz v)))) _ _ _ _ dX4_put_79 ⟨by rw [hk9], by rw [hk9], by rw [hk9]⟩ hP hS
      · skip
        refine lv_iload_n hx hb dX4_put_52 rfl (lv_at hl 3 rfl) ?_
        refine lv_i2b hx hb dX4_put_53 rfl ?_
        rw [← bz_e]
        refine lv_goto (tgt := 73) hx hb dX4_put_54 (by decide) ?_
        refine fs_M_sheet C hE hP (jDM hD) hS dX4_put_73 (by omega) (fun H lc hP hS => ?_)
        refine lv_aload_n hx hb dX4_put_74 rfl (lv_at hl 0 rfl) ?_
        refine jz_const C dX4_put_75 ?_
        refine jw_V C hl.1 (jpreV hE hP 4 0 rfl rfl) (c_X4_refused (A := A) (jDM hD) 1 ) (cwV 1 C.2.2.2.2 gX4_put_X4_refused rfl rfl rfl (by decide +kernel) ⟨Nat.le_of_ble_eq_true rfl, Nat.le_of_ble_eq_true rfl⟩) (As := [.int (iI (1))]) (hn := rfl) (hst := rfl) (rest := []) (hW := Nat.le_of_ble_eq_true rfl) (hdg := dX4_put_76) (hf := ⟨Nat.le_of_ble_eq_true rfl, Nat.le_of_ble_eq_true rfl⟩) hS (fun v9 uq76 H lc hq9 hP hS => ?_)
        obtain rfl : v9 = some (.int (iI (1))) := hq9
        have hP : va_P D vwCl (wM cI ad (u1 F 0 0) (uR R 29 (u1 (R 29) (Int.toNat ((60 * k) + i)) (bz v)))) H := hP
        have hk9 : k_X4_put F R k i v = (1, (u1 F 0 0), (uR R 29 (u1 (R 29) (Int.toNat ((60 * k) + i)) (bz v)))) := by rw [k_X4_put, (if_neg h4), (if_neg (Int.not_lt.mpr h19)), (if_pos h49)]
        exact hret _ ((u1 F 0 0), (uR R 29 (u1 (R 29) (Int.toNat ((60 * k) + i)) (bz v)))) _ _ _ _ dX4_put_79 ⟨by rw [hk9], by rw [hk9], by rw [hk9]⟩ hP hS
    · skip
      refine lv_aload_n hx hb dX4_put_22 rfl (lv_at hl 0 rfl) ?_
      refine lv_aload_n hx hb dX4_put_23 rfl (lv_at hl 0 rfl) ?_
      refine lv_iload_n hx hb dX4_put_24 rfl (lv_at hl 1 rfl) ?_
      refine lv_iload_n hx hb dX4_put_25 rfl (lv_at hl 2 rfl) ?_
      refine jc_V C hl.1 (jpreV hE hP 4 0 rfl rfl) (c_X4_noCell k i (show 0 ≤ k ∧ k ≤ 3 from (by omega)) (show -2147483648 ≤ i ∧ i < 2147483648 from (by omega)) (hS9.size (by omega))) (cwV 2 C.2.2.2.2 gX4_put_X4_noCell rfl rfl rfl (by decide +kernel) ⟨Nat.le_of_ble_eq_true rfl, Nat.le_of_ble_eq_true rfl⟩) (As := [.int (iI (k)), .int (iI (i))]) (v := .int (iI (nc (R 27 (Int.toNat k)) i))) (hn := rfl) (hst := rfl) (rest := [.ref (ad 0)]) (hW := Nat.le_of_ble_eq_true rfl) (hdg := dX4_put_26) (hf := ⟨Nat.le_of_ble_eq_true rfl, Nat.le_of_ble_eq_true rfl⟩) ?_
      refine jw_V C hl.1 (jpreV hE hP 4 0 rfl rfl) (c_X4_failed (A := A) (jDM hD) (nc (R 27 (Int.toNat k)) i) ) (cwV 1 C.2.2.2.2 gX4_put_X4_failed rfl rfl rfl (by decide +kernel) ⟨Nat.le_of_ble_eq_true rfl, Nat.le_of_ble_eq_true rfl⟩) (As := [.int (iI (nc (R 27 (Int.toNat k)) i))]) (hn := rfl) (hst := rfl) (rest := []) (hW := Nat.le_of_ble_eq_true rfl) (hdg := dX4_put_29) (hf := ⟨Nat.le_of_ble_eq_true rfl, Nat.le_of_ble_eq_true rfl⟩) hS (fun v9 uq29 H lc hq9 hP hS => ?_)
      obtain rfl : v9 = some (.int (iI ((-10) - (nc (R 27 (Int.toNat k)) i)))) := hq9
      have hP : va_P D vwCl (wM cI ad (u1 F 0 (nc (R 27 (Int.toNat k)) i)) R) H := hP
      have hk9 : k_X4_put F R k i v = ((-10) - (nc (R 27 (Int.toNat k)) i), (u1 F 0 (nc (R 27 (Int.toNat k)) i)), R) := by rw [k_X4_put, (if_neg h4), (if_pos h19)]
      exact hret _ ((u1 F 0 (nc (R 27 (Int.toNat k)) i)), R) _ _ _ _ dX4_put_32 ⟨by rw [hk9], by rw [hk9], by rw [hk9]⟩ hP hS
  · skip
    refine lv_aload_n hx hb dX4_put_7 rfl (lv_at hl 0 rfl) ?_
    refine jz_const C dX4_put_8 ?_
    refine jw_V C hl.1 (jpreV hE hP 4 0 rfl rfl) (c_X4_refused (A := A) (jDM hD) (-1) ) (cwV 1 C.2.2.2.2 gX4_put_X4_refused rfl rfl rfl (by decide +kernel) ⟨Nat.le_of_ble_eq_true rfl, Nat.le_of_ble_eq_true rfl⟩) (As := [.int (iI (-1))]) (hn := rfl) (hst := rfl) (rest := []) (hW := Nat.le_of_ble_eq_true rfl) (hdg := dX4_put_9) (hf := ⟨Nat.le_of_ble_eq_true rfl, Nat.le_of_ble_eq_true rfl⟩) hS (fun v9 uq9 H lc hq9 hP hS => ?_)
    obtain rfl : v9 = some (.int (iI ((-1)))) := hq9
    have hP : va_P D vwCl (wM cI ad (u1 F 0 0) R) H := hP
    have hk9 : k_X4_put F R k i v = ((-1), (u1 F 0 0), R) := by rw [k_X4_put, (if_pos h4)]
    exact hret _ ((u1 F 0 0), R) _ _ _ _ dX4_put_12 ⟨by rw [hk9], by rw [hk9], by rw [hk9]⟩ hP hS
def k_X4_cell (F : Nat → Int) (R : Nat → Nat → Int) (k : Int) (i : Int) (lane : Int) : Int × (Nat → Int) × (Nat → Nat → Int) := if ¬ (0 ≤ k ∧ k ≤ 3) then ((-9223372036854775808, (u1 F 0 0), R)) else (if 0 ≤ lane ∧ lane ≤ 2 then (if (R 27 (Int.toNat k)) < 0 then (if 0 < (nc (R 27 (Int.toNat k)) i) then ((-9223372036854775808, (u1 (u1 F 0 0) 0 (nc (R 27 (Int.toNat k)) i)), R)) else ((R 29 (Int.toNat ((60 * k) + i)), (u1 F 0 0), R))) else (if (R 28 (Int.toNat k)) = lane then (if 0 < (nc (R 27 (Int.toNat k)) i) then ((-9223372036854775808, (u1 (u1 F 0 0) 0 (nc (R 27 (Int.toNat k)) i)), R)) else ((R 29 (Int.toNat ((60 * k) + i)), (u1 F 0 0), R))) else ((-9223372036854775808, (u1 (u1 F 0 0) 0 2), R)))) else ((-9223372036854775808, (u1 F 0 0), R)))
abbrev rm_X4_cell : Room := { frames := 2, cells := 0, slots := 0, locals := 47 }
set_option maxHeartbeats 4000000 in
set_option maxRecDepth 100000 in
theorem c_X4_cell {l : Launch} {D : va_G} {cI cS : ClassId} {ad : Nat → Nat} {F : Nat → Int} {R : Nat → Nat → Int} {A : Nat → Prop} (hD : va_D A (wM cI ad F R))  (k : Int) (i : Int) (lane : Int)  (hS9 : MV F R) (hr_k : -2147483648 ≤ k ∧ k < 2147483648) (hr_i : -2147483648 ≤ i ∧ i < 2147483648) (hr_lane : -2147483648 ≤ lane ∧ lane < 2147483648): JV l yX4_cell wsX4_cell rm_X4_cell (jB D cI cS (wM cI ad F R)) A [.ref (ad 0), .int (iI (k)), .int (iI (i)), .int (iI (lane))] (fun v9 (u9 : (Nat → Int) × (Nat → Nat → Int)) => v9 = some (.long (lI (k_X4_cell F R k i lane).1)) ∧ u9.1 = (k_X4_cell F R k i lane).2.1 ∧ u9.2 = (k_X4_cell F R k i lane).2.2) (fun u9 H => va_P D vwCl (wM cI ad u9.1 u9.2) H) := by
  refine JV.mkL rfl (by decide +kernel) rfl (Nat.le_of_ble_eq_true rfl) ?_
  intro p e st mi ar bl mth cd Q ls C hB hl hret
  obtain ⟨hE, hP⟩ := hB
  have hx := C.1
  have hb := C.2.1
  have hl : lv_has ls 4 [(0, .ref (ad 0)), (1, .int (iI (k))), (2, .int (iI (i))), (3, .int (iI (lane)))] := hl
  have hin4 : ∀ w ∈ wsX40, w ∈ wsX4_cell := fun _ h => List.mem_cons_of_mem _ (List.mem_append_right _ h)
  suffices hgo : ∀ (H : Heap) (lc : List Loc), va_P D vwCl (wM cI ad F R) H → va_S A st.heap H lc → W p l e rm_X4_cell st mi ar bl mth cd H lc 0 0 Q (F0 mi 0 ls []) from hgo _ _ hP va_S.rf
  clear hP
  intro H lc hP hS
  have hM := hS9.town
  have hW := hM.works
  have hK := hM.wards
  have hlaw := hM.law
  have hrd := hM.reads
  have hsp := hM.spots
  have hhi := hM.high
  have hwd := hM.wide
  have hP8 := pw8 hW
  have hen := en_bd4 hW hM.vane
  refine lv_aload_n hx hb dX4_cell_0 rfl (lv_at hl 0 rfl) ?_
  refine jz_const C dX4_cell_1 ?_
  refine fp_M_fault C hin4 hE hP (jDM hD) hS (List.mem_of_getElem? (i := 1) rfl) dX4_cell_2 (fun H lc hP hS => ?_)
  refine lv_iload_n hx hb dX4_cell_5 rfl (lv_at hl 1 rfl) ?_
  refine jc_S C hl.1 (jpreS hE hP) (c_X4_noSheet k (show -2147483648 ≤ k ∧ k < 2147483648 from (by omega))) (va_cwS 1 C.2.2.2.2 gX4_cell_X4_noSheet rfl rfl rfl (by decide +kernel) ⟨Nat.le_of_ble_eq_true rfl, Nat.le_of_ble_eq_true rfl⟩) (As := [.int (iI (k))]) (v := .int (iI (if ¬ (0 ≤ k ∧ k ≤ 3) then 1 else 0))) (hn := rfl) (hst := rfl) (rest := []) (hW := Nat.le_of_ble_eq_true rfl) (hdg := dX4_cell_6) (hf := ⟨Nat.le_of_ble_eq_true rfl, Nat.le_of_ble_eq_true rfl⟩) ?_
  refine jz_bool_ne (tgt := 24) C dX4_cell_9 (by decide) (fun h9 => ?_) (fun h9 => ?_)
  · skip
    refine jc_S C hl.1 (jpreS hE hP) (c_X4_lost  ) (va_cwS 0 C.2.2.2.2 gX4_cell_X4_lost rfl rfl rfl (by decide +kernel) ⟨Nat.le_of_ble_eq_true rfl, Nat.le_of_ble_eq_true rfl⟩) (As := []) (v := .long (lI (-9223372036854775808))) (hn := rfl) (hst := rfl) (rest := []) (hW := Nat.le_of_ble_eq_true rfl) (hdg := dX4_cell_24) (hf := ⟨Nat.le_of_ble_eq_true rfl, Nat.le_of_ble_eq_true rfl⟩) ?_
    have hk9 : k_X4_cell F R k i lane = (-9223372036854775808, (u1 F 0 0), R) := by rw [k_X4_cell, (if_pos h9)]
    exact hret _ ((u1 F 0 0), R) _ _ _ _ dX4_cell_27 ⟨by rw [hk9], by rw [hk9], by rw [hk9]⟩ hP hS
  · skip
    refine lv_iload_n hx hb dX4_cell_12 rfl (lv_at hl 3 rfl) ?_
    refine jz_i2l C dX4_cell_13 (by omega) ?_
    refine jz_lconst (z := 0) C rfl dX4_cell_14 ?_
    refine jz_ldc2 (z := 2) C (List.mem_of_getElem? (i := 2) rfl) (by decide +kernel) dX4_cell_15 ?_
    refine jc_S C hl.1 (jpreS hE hP) (c_X4_in lane 0 2 (show -9223372036854775808 ≤ lane ∧ lane < 9223372036854775808 from (by omega)) (show -9223372036854775808 ≤ 0 ∧ 0 < 9223372036854775808 from (by omega)) (show -9223372036854775808 ≤ 2 ∧ 2 < 9223372036854775808 from (by omega))) (va_cwS 3 C.2.2.2.2 gX4_cell_X4_in rfl rfl rfl (by decide +kernel) ⟨Nat.le_of_ble_eq_true rfl, Nat.le_of_ble_eq_true rfl⟩) (As := [.long (lI (lane)), .long (lI (0)), .long (lI (2))]) (v := .int (iI (if 0 ≤ lane ∧ lane ≤ 2 then 1 else 0))) (hn := rfl) (hst := rfl) (rest := []) (hW := Nat.le_of_ble_eq_true rfl) (hdg := dX4_cell_18) (hf := ⟨Nat.le_of_ble_eq_true rfl, Nat.le_of_ble_eq_true rfl⟩) ?_
    refine jz_bool_ne (tgt := 28) C dX4_cell_21 (by decide) (fun h21 => ?_) (fun h21 => ?_)
    · skip
      have hnc := nc_bd (R 27 (Int.toNat k)) i
      have hsz := hS9.size (k := Int.toNat k) (by omega)
      have hln := hS9.lane (k := Int.toNat k) (by omega)
      refine lv_aload_n hx hb dX4_cell_28 rfl (lv_at hl 0 rfl) ?_
      refine fg_M_sheetSize C hin4 hE hP (List.mem_of_getElem? (i := 3) rfl) dX4_cell_29 ?_
      refine lv_iload_n hx hb dX4_cell_32 rfl (lv_at hl 1 rfl) ?_
      refine fl_M_sheetSize C hE hP (v := R 27 (Int.toNat k)) dX4_cell_33 (by omega) rfl ?_
      refine jz_if_lt (tgt := 53) C dX4_cell_34 (by decide) (by omega) (fun h34 => ?_) (fun h34 => ?_)
      · skip
        refine lv_aload_n hx hb dX4_cell_53 rfl (lv_at hl 0 rfl) ?_
        refine lv_iload_n hx hb dX4_cell_54 rfl (lv_at hl 1 rfl) ?_
        refine lv_iload_n hx hb dX4_cell_55 rfl (lv_at hl 2 rfl) ?_
        refine jc_V C hl.1 (jpreV hE hP 4 0 rfl rfl) (c_X4_noCell k i (show 0 ≤ k ∧ k ≤ 3 from (by omega)) (show -2147483648 ≤ i ∧ i < 2147483648 from (by omega)) (hS9.size (by omega))) (cwV 2 C.2.2.2.2 gX4_cell_X4_noCell rfl rfl rfl (by decide +kernel) ⟨Nat.le_of_ble_eq_true rfl, Nat.le_of_ble_eq_true rfl⟩) (As := [.int (iI (k)), .int (iI (i))]) (v := .int (iI (nc (R 27 (Int.toNat k)) i))) (hn := rfl) (hst := rfl) (rest := []) (hW := Nat.le_of_ble_eq_true rfl) (hdg := dX4_cell_56) (hf := ⟨Nat.le_of_ble_eq_true rfl, Nat.le_of_ble_eq_true rfl⟩) ?_
        refine jz_if_le (tgt := 75) C dX4_cell_59 (by decide) (by omega) (fun h59 => ?_) (fun h59 => ?_)
        · skip
          have hix := nc_0 h59
          refine lv_aload_n hx hb dX4_cell_75 rfl (lv_at hl 0 rfl) ?_
          refine fg_M_sheet C hin4 hE hP (List.mem_of_getElem? (i := 5) rfl) dX4_cell_76 ?_
          refine jz_bipush C dX4_cell_79 (by decide +kernel) ?_
          refine lv_iload_n hx hb dX4_cell_81 rfl (lv_at hl 1 rfl) ?_
          refine jz_imul C dX4_cell_82 ?_
          refine lv_iload_n hx hb dX4_cell_83 rfl (lv_at hl 2 rfl) ?_
          refine jz_iadd C dX4_cell_84 ?_
          refine fl_M_sheet C hE hP (v := R 29 (Int.toNat ((60 * k) + i))) dX4_cell_85 (by omega) rfl ?_
          have hrow := hS9.row (j := Int.toNat (60 * k + i)) (by omega)
          refine jz_i2l C dX4_cell_86 (by omega) ?_
          have hk9 : k_X4_cell F R k i lane = (R 29 (Int.toNat ((60 * k) + i)), (u1 F 0 0), R) := by rw [k_X4_cell, (if_neg h9), (if_pos h21), (if_pos h34), (if_neg (Int.not_lt.mpr h59))]
          exact hret _ ((u1 F 0 0), R) _ _ _ _ dX4_cell_87 ⟨by rw [hk9], by rw [hk9], by rw [hk9]⟩ hP hS
        · skip
          refine lv_aload_n hx hb dX4_cell_62 rfl (lv_at hl 0 rfl) ?_
          refine lv_aload_n hx hb dX4_cell_63 rfl (lv_at hl 0 rfl) ?_
          refine lv_iload_n hx hb dX4_cell_64 rfl (lv_at hl 1 rfl) ?_
          refine lv_iload_n hx hb dX4_cell_65 rfl (lv_at hl 2 rfl) ?_
          refine jc_V C hl.1 (jpreV hE hP 4 0 rfl rfl) (c_X4_noCell k i (show 0 ≤ k ∧ k ≤ 3 from (by omega)) (show -2147483648 ≤ i ∧ i < 2147483648 from (by omega)) (hS9.size (by omega))) (cwV 2 C.2.2.2.2 gX4_cell_X4_noCell rfl rfl rfl (by decide +kernel) ⟨Nat.le_of_ble_eq_true rfl, Nat.le_of_ble_eq_true rfl⟩) (As := [.int (iI (k)), .int (iI (i))]) (v := .int (iI (nc (R 27 (Int.toNat k)) i))) (hn := rfl) (hst := rfl) (rest := [.ref (ad 0)]) (hW := Nat.le_of_ble_eq_true rfl) (hdg := dX4_cell_66) (hf := ⟨Nat.le_of_ble_eq_true rfl, Nat.le_of_ble_eq_true rfl⟩) ?_
          refine jw_V C hl.1 (jpreV hE hP 4 0 rfl rfl) (c_X4_failedLong (A := A) (jDM hD) (nc (R 27 (Int.toNat k)) i) ) (cwV 1 C.2.2.2.2 gX4_cell_X4_failedLong rfl rfl rfl (by decide +kernel) ⟨Nat.le_of_ble_eq_true rfl, Nat.le_of_ble_eq_true rfl⟩) (As := [.int (iI (nc (R 27 (Int.toNat k)) i))]) (hn := rfl) (hst := rfl) (rest := []) (hW := Nat.le_of_ble_eq_true rfl) (hdg := dX4_cell_69) (hf := ⟨Nat.le_of_ble_eq_true rfl, Nat.le_of_ble_eq_true rfl⟩) hS (fun v9 uq69 H lc hq9 hP hS => ?_)
          obtain rfl : v9 = some (.long (lI (-9223372036854775808))) := hq9
          have hP : va_P D vwCl (wM cI ad (u1 (u1 F 0 0) 0 (nc (R 27 (Int.toNat k)) i)) R) H := hP
          refine lv_goto (tgt := 87) hx hb dX4_cell_72 (by decide) ?_
          have hk9 : k_X4_cell F R k i lane = (-9223372036854775808, (u1 (u1 F 0 0) 0 (nc (R 27 (Int.toNat k)) i)), R) := by rw [k_X4_cell, (if_neg h9), (if_pos h21), (if_pos h34), (if_pos h59)]
          exact hret _ ((u1 (u1 F 0 0) 0 (nc (R 27 (Int.toNat k)) i)), R) _ _ _ _ dX4_cell_87 ⟨by rw [hk9], by rw [hk9], by rw [hk9]⟩ hP hS
      · skip
        refine lv_aload_n hx hb dX4_cell_37 rfl (lv_at hl 0 rfl) ?_
        refine fg_M_sheetLane C hin4 hE hP (List.mem_of_getElem? (i := 4) rfl) dX4_cell_38 ?_
        refine lv_iload_n hx hb dX4_cell_41 rfl (lv_at hl 1 rfl) ?_
        refine fl_M_sheetLane C hE hP (v := R 28 (Int.toNat k)) dX4_cell_42 (by omega) rfl ?_
        refine lv_iload_n hx hb dX4_cell_43 rfl (lv_at hl 3 rfl) ?_
        refine jz_icmp_eq (tgt := 53) C dX4_cell_44 (by decide) (by omega) (fun h44 => ?_) (fun h44 => ?_)
        · skip
          refine lv_aload_n hx hb dX4_cell_53 rfl (lv_at hl 0 rfl) ?_
          refine lv_iload_n hx hb dX4_cell_54 rfl (lv_at hl 1 rfl) ?_
          refine lv_iload_n hx hb dX4_cell_55 rfl (lv_at hl 2 rfl) ?_
          refine jc_V C hl.1 (jpreV hE hP 4 0 rfl rfl) (c_X4_noCell k i (show 0 ≤ k ∧ k ≤ 3 from (by omega)) (show -2147483648 ≤ i ∧ i < 2147483648 from (by omega)) (hS9.size (by omega))) (cwV 2 C.2.2.2.2 gX4_cell_X4_noCell rfl rfl rfl (by decide +kernel) ⟨Nat.le_of_ble_eq_true rfl, Nat.le_of_ble_eq_true rfl⟩) (As := [.int (iI (k)), .int (iI (i))]) (v := .int (iI (nc (R 27 (Int.toNat k)) i))) (hn := rfl) (hst := rfl) (rest := []) (hW := Nat.le_of_ble_eq_true rfl) (hdg := dX4_cell_56) (hf := ⟨Nat.le_of_ble_eq_true rfl, Nat.le_of_ble_eq_true rfl⟩) ?_
          refine jz_if_le (tgt := 75) C dX4_cell_59 (by decide) (by omega) (fun h59 => ?_) (fun h59 => ?_)
          · skip
            have hix := nc_0 h59
            refine lv_aload_n hx hb dX4_cell_75 rfl (lv_at hl 0 rfl) ?_
            refine fg_M_sheet C hin4 hE hP (List.mem_of_getElem? (i := 5) rfl) dX4_cell_76 ?_
            refine jz_bipush C dX4_cell_79 (by decide +kernel) ?_
            refine lv_iload_n hx hb dX4_cell_81 rfl (lv_at hl 1 rfl) ?_
            refine jz_imul C dX4_cell_82 ?_
            refine lv_iload_n hx hb dX4_cell_83 rfl (lv_at hl 2 rfl) ?_
            refine jz_iadd C dX4_cell_84 ?_
            refine fl_M_sheet C hE hP (v := R 29 (Int.toNat ((60 * k) + i))) dX4_cell_85 (by omega) rfl ?_
            have hrow := hS9.row (j := Int.toNat (60 * k + i)) (by omega)
            refine jz_i2l C dX4_cell_86 (by omega) ?_
            have hk9 : k_X4_cell F R k i lane = (R 29 (Int.toNat ((60 * k) + i)), (u1 F 0 0), R) := by rw [k_X4_cell, (if_neg h9), (if_pos h21), (if_neg (Int.not_lt.mpr h34)), (if_pos h44), (if_neg (Int.not_lt.mpr h59))]
            exact hret _ ((u1 F 0 0), R) _ _ _ _ dX4_cell_87 ⟨by rw [hk9], by rw [hk9], by rw [hk9]⟩ hP hS
          · skip
            refine lv_aload_n hx hb dX4_cell_62 rfl (lv_at hl 0 rfl) ?_
            refine lv_aload_n hx hb dX4_cell_63 rfl (lv_at hl 0 rfl) ?_
            refine lv_iload_n hx hb dX4_cell_64 rfl (lv_at hl 1 rfl) ?_
            refine lv_iload_n hx hb dX4_cell_65 rfl (lv_at hl 2 rfl) ?_
            refine jc_V C hl.1 (jpreV hE hP 4 0 rfl rfl) (c_X4_noCell k i (show 0 ≤ k ∧ k ≤ 3 from (by omega)) (show -2147483648 ≤ i ∧ i < 2147483648 from (by omega)) (hS9.size (by omega))) (cwV 2 C.2.2.2.2 gX4_cell_X4_noCell rfl rfl rfl (by decide +kernel) ⟨Nat.le_of_ble_eq_true rfl, Nat.le_of_ble_eq_true rfl⟩) (As := [.int (iI (k)), .int (iI (i))]) (v := .int (iI (nc (R 27 (Int.toNat k)) i))) (hn := rfl) (hst := rfl) (rest := [.ref (ad 0)]) (hW := Nat.le_of_ble_eq_true rfl) (hdg := dX4_cell_66) (hf := ⟨Nat.le_of_ble_eq_true rfl, Nat.le_of_ble_eq_true rfl⟩) ?_
            refine jw_V C hl.1 (jpreV hE hP 4 0 rfl rfl) (c_X4_failedLong (A := A) (jDM hD) (nc (R 27 (Int.toNat k)) i) ) (cwV 1 C.2.2.2.2 gX4_cell_X4_failedLong rfl rfl rfl (by decide +kernel) ⟨Nat.le_of_ble_eq_true rfl, Nat.le_of_ble_eq_true rfl⟩) (As := [.int (iI (nc (R 27 (Int.toNat k)) i))]) (hn := rfl) (hst := rfl) (rest := []) (hW := Nat.le_of_ble_eq_true rfl) (hdg := dX4_cell_69) (hf := ⟨Nat.le_of_ble_eq_true rfl, Nat.le_of_ble_eq_true rfl⟩) hS (fun v9 uq69 H lc hq9 hP hS => ?_)
            obtain rfl : v9 = some (.long (lI (-9223372036854775808))) := hq9
            have hP : va_P D vwCl (wM cI ad (u1 (u1 F 0 0) 0 (nc (R 27 (Int.toNat k)) i)) R) H := hP
            refine lv_goto (tgt := 87) hx hb dX4_cell_72 (by decide) ?_
            have hk9 : k_X4_cell F R k i lane = (-9223372036854775808, (u1 (u1 F 0 0) 0 (nc (R 27 (Int.toNat k)) i)), R) := by rw [k_X4_cell, (if_neg h9), (if_pos h21), (if_neg (Int.not_lt.mpr h34)), (if_pos h44), (if_pos h59)]
            exact hret _ ((u1 (u1 F 0 0) 0 (nc (R 27 (Int.toNat k)) i)), R) _ _ _ _ dX4_cell_87 ⟨by rw [hk9], by rw [hk9], by rw [hk9]⟩ hP hS
        · skip
          refine lv_aload_n hx hb dX4_cell_47 rfl (lv_at hl 0 rfl) ?_
          refine jz_const C dX4_cell_48 ?_
          refine jw_V C hl.1 (jpreV hE hP 4 0 rfl rfl) (c_X4_failedLong (A := A) (jDM hD) 2 ) (cwV 1 C.2.2.2.2 gX4_cell_X4_failedLong rfl rfl rfl (by decide +kernel) ⟨Nat.le_of_ble_eq_true rfl, Nat.le_of_ble_eq_true rfl⟩) (As := [.int (iI (2))]) (hn := rfl) (hst := rfl) (rest := []) (hW := Nat.le_of_ble_eq_true rfl) (hdg := dX4_cell_49) (hf := ⟨Nat.le_of_ble_eq_true rfl, Nat.le_of_ble_eq_true rfl⟩) hS (fun v9 uq49 H lc hq9 hP hS => ?_)
          obtain rfl : v9 = some (.long (lI (-9223372036854775808))) := hq9
          have hP : va_P D vwCl (wM cI ad (u1 (u1 F 0 0) 0 2) R) H := hP
          have hk9 : k_X4_cell F R k i lane = (-9223372036854775808, (u1 (u1 F 0 0) 0 2), R) := by rw [k_X4_cell, (if_neg h9), (if_pos h21), (if_neg (Int.not_lt.mpr h34)), (if_neg (h44))]
          exact hret _ ((u1 (u1 F 0 0) 0 2), R) _ _ _ _ dX4_cell_52 ⟨by rw [hk9], by rw [hk9], by rw [hk9]⟩ hP hS
    · skip
      refine jc_S C hl.1 (jpreS hE hP) (c_X4_lost  ) (va_cwS 0 C.2.2.2.2 gX4_cell_X4_lost rfl rfl rfl (by decide +kernel) ⟨Nat.le_of_ble_eq_true rfl, Nat.le_of_ble_eq_true rfl⟩) (As := []) (v := .long (lI (-9223372036854775808))) (hn := rfl) (hst := rfl) (rest := []) (hW := Nat.le_of_ble_eq_true rfl) (hdg := dX4_cell_24) (hf := ⟨Nat.le_of_ble_eq_true rfl, Nat.le_of_ble_eq_true rfl⟩) ?_
      have hk9 : k_X4_cell F R k i lane = (-9223372036854775808, (u1 F 0 0), R) := by rw [k_X4_cell, (if_neg h9), (if_neg h21)]
      exact hret _ ((u1 F 0 0), R) _ _ _ _ dX4_cell_27 ⟨by rw [hk9], by rw [hk9], by rw [hk9]⟩ hP hS
