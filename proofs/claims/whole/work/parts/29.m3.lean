abbrev rm_X4_leastRow_b : Room := { frames := 4, cells := 0, slots := 0, locals := 95 }
set_option maxHeartbeats 4000000 in
set_option maxRecDepth 100000 in
theorem c_X4_leastRow_b {l : Launch} {D : va_G} {cI cS : ClassId} {ad : Nat → Nat} {F : Nat → Int} {R : Nat → Nat → Int} {A : Nat → Prop} (hD : va_D A (wM cI ad F R))    (hM : MI F R): JV l yX4_leastRow wsX4_leastRow rm_X4_leastRow_b (jB D cI cS (wM cI ad F R)) A [.ref (ad 0), .int (iI (1))] (fun v9 (_ : Unit) => v9 = some (.int (iI (am (fun y9 : Nat => su (mm F (wt F R (y9 : Int))) (Int.toNat (F 7))) (2 ^ (Int.toNat (2 * F 3)))).1))) (fun _ H => va_P D vwCl (wM cI ad (u1 F 23 (am (fun y9 : Nat => su (mm F (wt F R (y9 : Int))) (Int.toNat (F 7))) (2 ^ (Int.toNat (2 * F 3)))).2) R) H) := by
  refine JV.mkI rfl (by decide +kernel) rfl (Nat.le_of_ble_eq_true rfl) ?_
  intro p e st mi ar bl mth cd Q ls C hB hl hret
  obtain ⟨hE, hP⟩ := hB
  have hx := C.1
  have hb := C.2.1
  have hl : lv_has ls 6 [(0, .ref (ad 0)), (1, .int (iI (1)))] := hl
  have hin4 : ∀ w ∈ wsX40, w ∈ wsX4_leastRow := fun _ h => List.mem_cons_of_mem _ (List.mem_append_right _ h)
  suffices hgo : ∀ (H : Heap) (lc : List Loc), va_P D vwCl (wM cI ad F R) H → va_S A st.heap H lc → W p l e rm_X4_leastRow_b st mi ar bl mth cd H lc 0 0 Q (F0 mi 0 ls []) from hgo _ _ hP va_S.rf
  clear hP
  intro H lc hP hS
  have hW := hM.works
  have hK := hM.wards
  have hP8 := pw8 hW
  have hen := en_bd4 hW hM.vane
  have hpw := pwN (Int.toNat (2 * F 3))
  have hgb : ∀ x : Nat, 0 ≤ (fun y9 : Nat => su (mm F (wt F R (y9 : Int))) (Int.toNat (F 7))) x ∧ (fun y9 : Nat => su (mm F (wt F R (y9 : Int))) (Int.toNat (F 7))) x < 1000000 := fun x => by
    have h5 := su_bd (f := mm F (wt F R (x : Int))) (n := Int.toNat (F 7)) (b := 720) (fun y hy => mm_bd hM.wt (by omega))
    exact ⟨h5.1, by first | omega | (simp only; omega)⟩
  refine lv_aload_n hx hb dX4_leastRow_0 rfl (lv_at hl 0 rfl) ?_
  refine jc_V C hl.1 (jpreV hE hP 4 0 rfl rfl) (c_X4_vanesNow  (by first | exact hM | assumption)) (cwV 0 C.2.2.2.2 gX4_leastRow_X4_vanesNow rfl rfl rfl (by decide +kernel) ⟨Nat.le_of_ble_eq_true rfl, Nat.le_of_ble_eq_true rfl⟩) (As := []) (v := .int (iI (en (R 6) (Int.toNat (F 3))))) (hn := rfl) (hst := rfl) (rest := []) (hW := Nat.le_of_ble_eq_true rfl) (hdg := dX4_leastRow_1) (hf := ⟨Nat.le_of_ble_eq_true rfl, Nat.le_of_ble_eq_true rfl⟩) ?_
  refine lv_istore_n (lv' := [(2, .int (iI (en (R 6) (Int.toNat (F 3))))), (0, .ref (ad 0)), (1, .int (iI (1)))]) hx hb dX4_leastRow_4 rfl hl (by decide) rfl (fun ls hl => ?_)
  refine jz_const C dX4_leastRow_5 ?_
  refine lv_istore_n (lv' := [(3, .int (iI (0))), (2, .int (iI (en (R 6) (Int.toNat (F 3))))), (0, .ref (ad 0)), (1, .int (iI (1)))]) hx hb dX4_leastRow_6 rfl hl (by decide) rfl (fun ls hl => ?_)
  refine lv_aload_n hx hb dX4_leastRow_7 rfl (lv_at hl 2 rfl) ?_
  refine jz_const C dX4_leastRow_8 ?_
  refine fp_M_leastIs C hin4 hE hP (jDM hD) hS (List.mem_of_getElem? (i := 1) rfl) dX4_leastRow_9 (fun H lc hP hS => ?_)
  refine jz_const C dX4_leastRow_12 ?_
  refine lv_istore (lv' := [(4, .int (iI (0))), (3, .int (iI (0))), (2, .int (iI (en (R 6) (Int.toNat (F 3))))), (0, .ref (ad 0)), (1, .int (iI (1)))]) hx hb dX4_leastRow_13 hl (by decide) rfl (fun ls hl => ?_)
  have key15 : ∀ (n15 : Nat) (t : Nat) (s : Int) (ht : ((t : Nat) : Int) ≤ (2 ^ (Int.toNat (2 * F 3)))), ((2 ^ (Int.toNat (2 * F 3))) - ((t : Nat) : Int) : Int) < n15 → ∀ (H : Heap) (lc : List Loc), va_P D vwCl (wM cI ad (u1 F 23 (lf (fun y9 : Nat => su (mm F (wt F R (y9 : Int))) (Int.toNat (F 7))) t)) (uR R 6 (tA (F 3) s (R 6)))) H → va_S A st.heap H lc → ∀ (ls : Array Slot), lv_has ls 6 [(4, .int (iI (((t : Nat) : Int)))), (3, .int (iI ((am (fun y9 : Nat => su (mm F (wt F R (y9 : Int))) (Int.toNat (F 7))) t).1))), (2, .int (iI (en (R 6) (Int.toNat (F 3))))), (0, .ref (ad 0)), (1, .int (iI (1)))] → W p l e rm_X4_leastRow_b st mi ar bl mth cd H lc 0 0 Q (F0 mi 15 ls []) := by
    intro n15
    induction n15 with
    | zero => intro t s ht hn9; exfalso; omega
    | succ n15 ih15 =>
      intro t s ht hn9 H lc hP hS ls hl
      refine lv_iload hx hb dX4_leastRow_15 (lv_at hl 0 rfl) ?_
      refine lv_aload_n hx hb dX4_leastRow_17 rfl (lv_at hl 3 rfl) ?_
      refine jc_V C hl.1 (jpreV hE hP 4 0 rfl rfl) (c_X4_rows  hM.works) (cwV 0 C.2.2.2.2 gX4_leastRow_X4_rows rfl rfl rfl (by decide +kernel) ⟨Nat.le_of_ble_eq_true rfl, Nat.le_of_ble_eq_true rfl⟩) (As := []) (v := .int (iI (2 ^ (Int.toNat (2 * (F 3)))))) (hn := rfl) (hst := rfl) (rest := [.int (iI (((t : Nat) : Int)))]) (hW := Nat.le_of_ble_eq_true rfl) (hdg := dX4_leastRow_18) (hf := ⟨Nat.le_of_ble_eq_true rfl, Nat.le_of_ble_eq_true rfl⟩) ?_
      refine jz_icmp_ge (tgt := 95) C dX4_leastRow_21 (by decide) (by omega) (fun h21 => ?_) (fun h21 => ?_)
      · skip
        have hg9 : t = 2 ^ (Int.toNat (2 * F 3)) := (by omega)
        subst hg9
        have hl : lv_has ls 6 [(3, .int (iI ((am (fun y9 : Nat => su (mm F (wt F R (y9 : Int))) (Int.toNat (F 7))) (2 ^ (Int.toNat (2 * F 3)))).1))), (2, .int (iI (en (R 6) (Int.toNat (F 3))))), (0, .ref (ad 0)), (1, .int (iI (1)))] := lv_sub hl [1, 2, 3, 4] rfl
        refine lv_aload_n hx hb dX4_leastRow_95 rfl (lv_at hl 2 rfl) ?_
        refine lv_iload_n hx hb dX4_leastRow_96 rfl (lv_at hl 1 rfl) ?_
        refine jw_V C hl.1 (jpreV hE hP 4 0 rfl rfl) (c_X4_turnAll (A := A) (jDM hD) (en (R 6) (Int.toNat (F 3))) hM.works (show 0 ≤ (en (R 6) (Int.toNat (F 3))) ∧ (en (R 6) (Int.toNat (F 3))) < 256 from (by omega))) (cwV 1 C.2.2.2.2 gX4_leastRow_X4_turnAll rfl rfl rfl (by decide +kernel) ⟨Nat.le_of_ble_eq_true rfl, Nat.le_of_ble_eq_true rfl⟩) (As := [.int (iI (en (R 6) (Int.toNat (F 3))))]) (hn := rfl) (hst := rfl) (rest := []) (hW := Nat.le_of_ble_eq_true rfl) (hdg := dX4_leastRow_97) (hf := ⟨Nat.le_of_ble_eq_true rfl, Nat.le_of_ble_eq_true rfl⟩) hS (fun v9 uq97 H lc hq9 hP hS => ?_)
        subst hq9
        have hP : va_P D vwCl (wM cI ad (u1 F 23 (lf (fun y9 : Nat => su (mm F (wt F R (y9 : Int))) (Int.toNat (F 7))) (2 ^ (Int.toNat (2 * F 3))))) (uR (uR R 6 (tA (F 3) s (R 6))) 6 (tA (F 3) (en (R 6) (Int.toNat (F 3))) (tA (F 3) s (R 6))))) H := hP
        have hP : va_P D vwCl (wM cI ad (u1 F 23 ((am (fun y9 : Nat => su (mm F (wt F R (y9 : Int))) (Int.toNat (F 7))) (2 ^ (Int.toNat (2 * F 3)))).2)) R) H := by rw [show lf (fun y9 : Nat => su (mm F (wt F R (y9 : Int))) (Int.toNat (F 7))) (2 ^ (Int.toNat (2 * F 3))) = (am (fun y9 : Nat => su (mm F (wt F R (y9 : Int))) (Int.toNat (F 7))) (2 ^ (Int.toNat (2 * F 3)))).2 from by unfold lf; rw [if_neg (by omega)], tA_tA, uR_u, show uR R 6 (tA (F 3) (en (R 6) (Int.toNat (F 3))) (R 6)) = R from wt_en hM] at hP; exact hP
        refine lv_iload_n hx hb dX4_leastRow_100 rfl (lv_at hl 0 rfl) ?_
        exact hret _ () _ _ _ _ dX4_leastRow_101 rfl hP hS
      · skip
        refine lv_aload_n hx hb dX4_leastRow_24 rfl (lv_at hl 3 rfl) ?_
        refine lv_iload hx hb dX4_leastRow_25 (lv_at hl 0 rfl) ?_
        refine jw_V C hl.1 (jpreV hE hP 4 0 rfl rfl) (c_X4_turnAll (A := A) (jDM hD) ((t : Nat) : Int) hM.works (show 0 ≤ ((t : Nat) : Int) ∧ ((t : Nat) : Int) < 256 from (by omega))) (cwV 1 C.2.2.2.2 gX4_leastRow_X4_turnAll rfl rfl rfl (by decide +kernel) ⟨Nat.le_of_ble_eq_true rfl, Nat.le_of_ble_eq_true rfl⟩) (As := [.int (iI (((t : Nat) : Int)))]) (hn := rfl) (hst := rfl) (rest := []) (hW := Nat.le_of_ble_eq_true rfl) (hdg := dX4_leastRow_27) (hf := ⟨Nat.le_of_ble_eq_true rfl, Nat.le_of_ble_eq_true rfl⟩) hS (fun v9 uq27 H lc hq9 hP hS => ?_)
        subst hq9
        have hP : va_P D vwCl (wM cI ad (u1 F 23 (lf (fun y9 : Nat => su (mm F (wt F R (y9 : Int))) (Int.toNat (F 7))) t)) (uR (uR R 6 (tA (F 3) s (R 6))) 6 (tA (F 3) ((t : Nat) : Int) (tA (F 3) s (R 6))))) H := hP
        have hP : va_P D vwCl (wM cI ad (u1 F 23 (lf (fun y9 : Nat => su (mm F (wt F R (y9 : Int))) (Int.toNat (F 7))) t)) (uR R 6 (tA (F 3) (t : Int) (R 6)))) H := by rw [tA_tA] at hP; exact hP
        have hbv : ∀ x : Nat, x ≤ t → 0 ≤ (fun y9 : Nat => su (mm F (wt F R (y9 : Int))) (Int.toNat (F 7))) x ∧ (fun y9 : Nat => su (mm F (wt F R (y9 : Int))) (Int.toNat (F 7))) x < 1000000 := fun x _ => hgb x
        have hgv := hgb t
        have hlf := lf_bd (g := (fun y9 : Nat => su (mm F (wt F R (y9 : Int))) (Int.toNat (F 7)))) (n := t) (fun x _ => hgb x)
        have ham := am_bd (g := (fun y9 : Nat => su (mm F (wt F R (y9 : Int))) (Int.toNat (F 7)))) (n := t) (fun x _ => hgb x)
        have ham2 : (am (fun y9 : Nat => su (mm F (wt F R (y9 : Int))) (Int.toNat (F 7))) t).1 < 257 := by have h5 := ham.2.1; split at h5 <;> omega
        have hMt : MI F (uR R 6 (tA (F 3) (t : Int) (R 6))) := hM.wt
        refine lv_iload_n hx hb dX4_leastRow_30 rfl (lv_at hl 4 rfl) ?_
        refine jz_if_eq (tgt := 41) C dX4_leastRow_31 (by decide) (by omega) (fun h31 => ?_) (fun h31 => ?_)
        · exact absurd h31 (by decide)
        · skip
          refine lv_aload_n hx hb dX4_leastRow_34 rfl (lv_at hl 3 rfl) ?_
          refine jc_V C hl.1 (jpreV hE hP 4 0 rfl rfl) (c_X4_burdenNow  hMt) (cwV 0 C.2.2.2.2 gX4_leastRow_X4_burdenNow rfl rfl rfl (by decide +kernel) ⟨Nat.le_of_ble_eq_true rfl, Nat.le_of_ble_eq_true rfl⟩) (As := []) (v := .int (iI (su (mm (u1 F 23 (lf (fun y9 : Nat => su (mm F (wt F R (y9 : Int))) (Int.toNat (F 7))) t)) (uR R 6 (tA (F 3) (t : Int) (R 6)))) (Int.toNat (F 7))))) (hn := rfl) (hst := rfl) (rest := []) (hW := Nat.le_of_ble_eq_true rfl) (hdg := dX4_leastRow_35) (hf := ⟨Nat.le_of_ble_eq_true rfl, Nat.le_of_ble_eq_true rfl⟩) ?_
          refine lv_goto (tgt := 45) hx hb dX4_leastRow_38 (by decide) ?_
          refine lv_istore (lv' := [(5, .int (iI (su (mm (u1 F 23 (lf (fun y9 : Nat => su (mm F (wt F R (y9 : Int))) (Int.toNat (F 7))) t)) (uR R 6 (tA (F 3) (t : Int) (R 6)))) (Int.toNat (F 7))))), (4, .int (iI (((t : Nat) : Int)))), (3, .int (iI ((am (fun y9 : Nat => su (mm F (wt F R (y9 : Int))) (Int.toNat (F 7))) t).1))), (2, .int (iI (en (R 6) (Int.toNat (F 3))))), (0, .ref (ad 0)), (1, .int (iI (1)))]) hx hb dX4_leastRow_45 hl (by decide) rfl (fun ls hl => ?_)
          have hl : lv_has ls 6 [(5, .int (iI ((fun y9 : Nat => su (mm F (wt F R (y9 : Int))) (Int.toNat (F 7))) t))), (4, .int (iI (((t : Nat) : Int)))), (3, .int (iI ((am (fun y9 : Nat => su (mm F (wt F R (y9 : Int))) (Int.toNat (F 7))) t).1))), (2, .int (iI (en (R 6) (Int.toNat (F 3))))), (0, .ref (ad 0)), (1, .int (iI (1)))] := by
            rw [show ((fun y9 : Nat => su (mm F (wt F R (y9 : Int))) (Int.toNat (F 7))) t : Int) = su (mm (u1 F 23 (lf (fun y9 : Nat => su (mm F (wt F R (y9 : Int))) (Int.toNat (F 7))) t)) (uR R 6 (tA (F 3) (t : Int) (R 6)))) (Int.toNat (F 7)) from by rfl]
            exact hl
          refine lv_aload_n hx hb dX4_leastRow_47 rfl (lv_at hl 4 rfl) ?_
          refine fg_M_leastIs C hin4 hE hP (v := lf (fun y9 : Nat => su (mm F (wt F R (y9 : Int))) (Int.toNat (F 7))) t) (List.mem_of_getElem? (i := 1) rfl) dX4_leastRow_48 rfl ?_
          refine jz_if_lt (tgt := 63) C dX4_leastRow_51 (by decide) (by omega) (fun h51 => ?_) (fun h51 => ?_)
          · skip
            refine lv_iload hx hb dX4_leastRow_63 (lv_at hl 1 rfl) ?_
            refine lv_goto (tgt := 69) hx hb dX4_leastRow_65 (by decide) ?_
            refine lv_istore_n (lv' := [(3, .int (iI (((t : Nat) : Int)))), (5, .int (iI ((fun y9 : Nat => su (mm F (wt F R (y9 : Int))) (Int.toNat (F 7))) t))), (4, .int (iI (((t : Nat) : Int)))), (2, .int (iI (en (R 6) (Int.toNat (F 3))))), (0, .ref (ad 0)), (1, .int (iI (1)))]) hx hb dX4_leastRow_69 rfl hl (by decide) rfl (fun ls hl => ?_)
            refine lv_aload_n hx hb dX4_leastRow_70 rfl (lv_at hl 4 rfl) ?_
            refine lv_iload_n hx hb dX4_leastRow_71 rfl (lv_at hl 0 rfl) ?_
            refine lv_iload hx hb dX4_leastRow_72 (lv_at hl 2 rfl) ?_
            refine jz_icmp_ne (tgt := 82) C dX4_leastRow_74 (by decide) (by omega) (fun h74 => ?_) (fun h74 => ?_)
            · exact absurd rfl h74
            · skip
              refine lv_iload hx hb dX4_leastRow_77 (lv_at hl 1 rfl) ?_
              refine lv_goto (tgt := 86) hx hb dX4_leastRow_79 (by decide) ?_
              refine fp_M_leastIs C hin4 hE hP (jDM hD) hS (List.mem_of_getElem? (i := 1) rfl) dX4_leastRow_86 (fun H lc hP hS => ?_)
              refine jz_iinc (k := 2) (z := ((t : Nat) : Int) + 1) (lv' := [(4, .int (iI (((t : Nat) : Int) + 1))), (3, .int (iI (((t : Nat) : Int)))), (5, .int (iI ((fun y9 : Nat => su (mm F (wt F R (y9 : Int))) (Int.toNat (F 7))) t))), (2, .int (iI (en (R 6) (Int.toNat (F 3))))), (0, .ref (ad 0)), (1, .int (iI (1)))]) C dX4_leastRow_89 hl rfl rfl (by decide) rfl (fun ls hl => ?_)
              refine lv_goto (tgt := 15) hx hb dX4_leastRow_92 (by decide) ?_
              have hl9 : lv_has ls 6 [(4, .int (iI (((t + 1 : Nat) : Int)))), (3, .int (iI ((am (fun y9 : Nat => su (mm F (wt F R (y9 : Int))) (Int.toNat (F 7))) (t + 1)).1))), (2, .int (iI (en (R 6) (Int.toNat (F 3))))), (0, .ref (ad 0)), (1, .int (iI (1)))] := by
                rw [show ((am (fun y9 : Nat => su (mm F (wt F R (y9 : Int))) (Int.toNat (F 7))) (t + 1)).1 : Int) = ((t : Nat) : Int) from by first | rw [lf_a hbv h51] | rw [lf_b hbv h60] | rw [(lf_c hbv h51 h60).1]]
                exact lv_sub hl [0, 1, 3, 4, 5] rfl
              exact ih15 (t + 1) (t : Int) (by omega) (by omega) _ _ (by first | (rw [lf_s, lf_a hbv h51]; exact hP) | (rw [lf_s, lf_b hbv h60]; exact hP) | (rw [lf_d hbv h51 h60]; exact hP)) hS ls hl9
          · skip
            refine lv_iload hx hb dX4_leastRow_54 (lv_at hl 0 rfl) ?_
            refine lv_aload_n hx hb dX4_leastRow_56 rfl (lv_at hl 4 rfl) ?_
            refine fg_M_leastIs C hin4 hE hP (v := lf (fun y9 : Nat => su (mm F (wt F R (y9 : Int))) (Int.toNat (F 7))) t) (List.mem_of_getElem? (i := 1) rfl) dX4_leastRow_57 rfl ?_
            refine jz_icmp_ge (tgt := 68) C dX4_leastRow_60 (by decide) (by omega) (fun h60 => ?_) (fun h60 => ?_)
            · skip
              refine lv_iload_n hx hb dX4_leastRow_68 rfl (lv_at hl 2 rfl) ?_
              refine lv_istore_n (lv' := [(3, .int (iI ((am (fun y9 : Nat => su (mm F (wt F R (y9 : Int))) (Int.toNat (F 7))) t).1))), (5, .int (iI ((fun y9 : Nat => su (mm F (wt F R (y9 : Int))) (Int.toNat (F 7))) t))), (4, .int (iI (((t : Nat) : Int)))), (2, .int (iI (en (R 6) (Int.toNat (F 3))))), (0, .ref (ad 0)), (1, .int (iI (1)))]) hx hb dX4_leastRow_69 rfl hl (by decide) rfl (fun ls hl => ?_)
              refine lv_aload_n hx hb dX4_leastRow_70 rfl (lv_at hl 4 rfl) ?_
              refine lv_iload_n hx hb dX4_leastRow_71 rfl (lv_at hl 0 rfl) ?_
              refine lv_iload hx hb dX4_leastRow_72 (lv_at hl 2 rfl) ?_
              refine jz_icmp_ne (tgt := 82) C dX4_leastRow_74 (by decide) (by omega) (fun h74 => ?_) (fun h74 => ?_)
              · skip
                refine lv_aload_n hx hb dX4_leastRow_82 rfl (lv_at hl 4 rfl) ?_
                refine fg_M_leastIs C hin4 hE hP (v := lf (fun y9 : Nat => su (mm F (wt F R (y9 : Int))) (Int.toNat (F 7))) t) (List.mem_of_getElem? (i := 1) rfl) dX4_leastRow_83 rfl ?_
                refine fp_M_leastIs C hin4 hE hP (jDM hD) hS (List.mem_of_getElem? (i := 1) rfl) dX4_leastRow_86 (fun H lc hP hS => ?_)
                refine jz_iinc (k := 2) (z := ((t : Nat) : Int) + 1) (lv' := [(4, .int (iI (((t : Nat) : Int) + 1))), (3, .int (iI ((am (fun y9 : Nat => su (mm F (wt F R (y9 : Int))) (Int.toNat (F 7))) t).1))), (5, .int (iI ((fun y9 : Nat => su (mm F (wt F R (y9 : Int))) (Int.toNat (F 7))) t))), (2, .int (iI (en (R 6) (Int.toNat (F 3))))), (0, .ref (ad 0)), (1, .int (iI (1)))]) C dX4_leastRow_89 hl rfl rfl (by decide) rfl (fun ls hl => ?_)
                refine lv_goto (tgt := 15) hx hb dX4_leastRow_92 (by decide) ?_
                have hl9 : lv_has ls 6 [(4, .int (iI (((t + 1 : Nat) : Int)))), (3, .int (iI ((am (fun y9 : Nat => su (mm F (wt F R (y9 : Int))) (Int.toNat (F 7))) (t + 1)).1))), (2, .int (iI (en (R 6) (Int.toNat (F 3))))), (0, .ref (ad 0)), (1, .int (iI (1)))] := by
                  rw [show ((am (fun y9 : Nat => su (mm F (wt F R (y9 : Int))) (Int.toNat (F 7))) (t + 1)).1 : Int) = (am (fun y9 : Nat => su (mm F (wt F R (y9 : Int))) (Int.toNat (F 7))) t).1 from by first | rw [lf_a hbv h51] | rw [lf_b hbv h60] | rw [(lf_c hbv h51 h60).1]]
                  exact lv_sub hl [0, 1, 3, 4, 5] rfl
                exact ih15 (t + 1) (t : Int) (by omega) (by omega) _ _ (by first | (rw [lf_s, lf_a hbv h51]; exact hP) | (rw [lf_s, lf_b hbv h60]; exact hP) | (rw [lf_d hbv h51 h60]; exact hP)) hS ls hl9
              · exact absurd h74 (lf_c hbv h51 h60).2
            · skip
              refine lv_iload hx hb dX4_leastRow_63 (lv_at hl 1 rfl) ?_
              refine lv_goto (tgt := 69) hx hb dX4_leastRow_65 (by decide) ?_
              refine lv_istore_n (lv' := [(3, .int (iI (((t : Nat) : Int)))), (5, .int (iI ((fun y9 : Nat => su (mm F (wt F R (y9 : Int))) (Int.toNat (F 7))) t))), (4, .int (iI (((t : Nat) : Int)))), (2, .int (iI (en (R 6) (Int.toNat (F 3))))), (0, .ref (ad 0)), (1, .int (iI (1)))]) hx hb dX4_leastRow_69 rfl hl (by decide) rfl (fun ls hl => ?_)
              refine lv_aload_n hx hb dX4_leastRow_70 rfl (lv_at hl 4 rfl) ?_
              refine lv_iload_n hx hb dX4_leastRow_71 rfl (lv_at hl 0 rfl) ?_
              refine lv_iload hx hb dX4_leastRow_72 (lv_at hl 2 rfl) ?_
              refine jz_icmp_ne (tgt := 82) C dX4_leastRow_74 (by decide) (by omega) (fun h74 => ?_) (fun h74 => ?_)
              · exact absurd rfl h74
              · skip
                refine lv_iload hx hb dX4_leastRow_77 (lv_at hl 1 rfl) ?_
                refine lv_goto (tgt := 86) hx hb dX4_leastRow_79 (by decide) ?_
                refine fp_M_leastIs C hin4 hE hP (jDM hD) hS (List.mem_of_getElem? (i := 1) rfl) dX4_leastRow_86 (fun H lc hP hS => ?_)
                refine jz_iinc (k := 2) (z := ((t : Nat) : Int) + 1) (lv' := [(4, .int (iI (((t : Nat) : Int) + 1))), (3, .int (iI (((t : Nat) : Int)))), (5, .int (iI ((fun y9 : Nat => su (mm F (wt F R (y9 : Int))) (Int.toNat (F 7))) t))), (2, .int (iI (en (R 6) (Int.toNat (F 3))))), (0, .ref (ad 0)), (1, .int (iI (1)))]) C dX4_leastRow_89 hl rfl rfl (by decide) rfl (fun ls hl => ?_)
                refine lv_goto (tgt := 15) hx hb dX4_leastRow_92 (by decide) ?_
                have hl9 : lv_has ls 6 [(4, .int (iI (((t + 1 : Nat) : Int)))), (3, .int (iI ((am (fun y9 : Nat => su (mm F (wt F R (y9 : Int))) (Int.toNat (F 7))) (t + 1)).1))), (2, .int (iI (en (R 6) (Int.toNat (F 3))))), (0, .ref (ad 0)), (1, .int (iI (1)))] := by
                  rw [show ((am (fun y9 : Nat => su (mm F (wt F R (y9 : Int))) (Int.toNat (F 7))) (t + 1)).1 : Int) = ((t : Nat) : Int) from by first | rw [lf_a hbv h51] | rw [lf_b hbv h60] | rw [(lf_c hbv h51 h60).1]]
                  exact lv_sub hl [0, 1, 3, 4, 5] rfl
                exact ih15 (t + 1) (t : Int) (by omega) (by omega) _ _ (by first | (rw [lf_s, lf_a hbv h51]; exact hP) | (rw [lf_s, lf_b hbv h60]; exact hP) | (rw [lf_d hbv h51 h60]; exact hP)) hS ls hl9
  exact key15 (Int.toNat ((2 ^ (Int.toNat (2 * F 3))) - ((0 : Nat) : Int)) + 1) 0 (en (R 6) (Int.toNat (F 3))) (by omega) (by omega) _ _ (by rw [show uR R 6 (tA (F 3) (en (R 6) (Int.toNat (F 3))) (R 6)) = R from wt_en hM]; exact hP) hS ls (lv_sub hl [0, 1, 2, 3, 4] rfl)
abbrev rm_X4_leastRow_c : Room := { frames := 4, cells := 0, slots := 0, locals := 95 }
set_option maxHeartbeats 4000000 in
set_option maxRecDepth 100000 in
theorem c_X4_leastRow_c {l : Launch} {D : va_G} {cI cS : ClassId} {ad : Nat → Nat} {F : Nat → Int} {R : Nat → Nat → Int} {A : Nat → Prop} (hD : va_D A (wM cI ad F R))    (hM : MI F R): JV l yX4_leastRow wsX4_leastRow rm_X4_leastRow_c (jB D cI cS (wM cI ad F R)) A [.ref (ad 0), .int (iI (0))] (fun v9 (_ : Unit) => v9 = some (.int (iI (am (fun y9 : Nat => mx (mm F (wt F R (y9 : Int))) (Int.toNat (F 7))) (2 ^ (Int.toNat (2 * F 3)))).1))) (fun _ H => va_P D vwCl (wM cI ad (u1 F 23 (am (fun y9 : Nat => mx (mm F (wt F R (y9 : Int))) (Int.toNat (F 7))) (2 ^ (Int.toNat (2 * F 3)))).2) R) H) := by
  refine JV.mkI rfl (by decide +kernel) rfl (Nat.le_of_ble_eq_true rfl) ?_
  intro p e st mi ar bl mth cd Q ls C hB hl hret
  obtain ⟨hE, hP⟩ := hB
  have hx := C.1
  have hb := C.2.1
  have hl : lv_has ls 6 [(0, .ref (ad 0)), (1, .int (iI (0)))] := hl
  have hin4 : ∀ w ∈ wsX40, w ∈ wsX4_leastRow := fun _ h => List.mem_cons_of_mem _ (List.mem_append_right _ h)
  suffices hgo : ∀ (H : Heap) (lc : List Loc), va_P D vwCl (wM cI ad F R) H → va_S A st.heap H lc → W p l e rm_X4_leastRow_c st mi ar bl mth cd H lc 0 0 Q (F0 mi 0 ls []) from hgo _ _ hP va_S.rf
  clear hP
  intro H lc hP hS
  have hW := hM.works
  have hK := hM.wards
  have hP8 := pw8 hW
  have hen := en_bd4 hW hM.vane
  have hpw := pwN (Int.toNat (2 * F 3))
  have hgb : ∀ x : Nat, 0 ≤ (fun y9 : Nat => mx (mm F (wt F R (y9 : Int))) (Int.toNat (F 7))) x ∧ (fun y9 : Nat => mx (mm F (wt F R (y9 : Int))) (Int.toNat (F 7))) x < 1000000 := fun x => by
    have h5 := mx_bd (f := mm F (wt F R (x : Int))) (n := Int.toNat (F 7)) (b := 720) (by omega) (fun y hy => mm_bd hM.wt (by omega))
    exact ⟨h5.1, by first | omega | (simp only; omega)⟩
  refine lv_aload_n hx hb dX4_leastRow_0 rfl (lv_at hl 0 rfl) ?_
  refine jc_V C hl.1 (jpreV hE hP 4 0 rfl rfl) (c_X4_vanesNow  (by first | exact hM | assumption)) (cwV 0 C.2.2.2.2 gX4_leastRow_X4_vanesNow rfl rfl rfl (by decide +kernel) ⟨Nat.le_of_ble_eq_true rfl, Nat.le_of_ble_eq_true rfl⟩) (As := []) (v := .int (iI (en (R 6) (Int.toNat (F 3))))) (hn := rfl) (hst := rfl) (rest := []) (hW := Nat.le_of_ble_eq_true rfl) (hdg := dX4_leastRow_1) (hf := ⟨Nat.le_of_ble_eq_true rfl, Nat.le_of_ble_eq_true rfl⟩) ?_
  refine lv_istore_n (lv' := [(2, .int (iI (en (R 6) (Int.toNat (F 3))))), (0, .ref (ad 0)), (1, .int (iI (0)))]) hx hb dX4_leastRow_4 rfl hl (by decide) rfl (fun ls hl => ?_)
  refine jz_const C dX4_leastRow_5 ?_
  refine lv_istore_n (lv' := [(3, .int (iI (0))), (2, .int (iI (en (R 6) (Int.toNat (F 3))))), (0, .ref (ad 0)), (1, .int (iI (0)))]) hx hb dX4_leastRow_6 rfl hl (by decide) rfl (fun ls hl => ?_)
  refine lv_aload_n hx hb dX4_leastRow_7 rfl (lv_at hl 2 rfl) ?_
  refine jz_const C dX4_leastRow_8 ?_
  refine fp_M_leastIs C hin4 hE hP (jDM hD) hS (List.mem_of_getElem? (i := 1) rfl) dX4_leastRow_9 (fun H lc hP hS => ?_)
  refine jz_const C dX4_leastRow_12 ?_
  refine lv_istore (lv' := [(4, .int (iI (0))), (3, .int (iI (0))), (2, .int (iI (en (R 6) (Int.toNat (F 3))))), (0, .ref (ad 0)), (1, .int (iI (0)))]) hx hb dX4_leastRow_13 hl (by decide) rfl (fun ls hl => ?_)
  have key15 : ∀ (n15 : Nat) (t : Nat) (s : Int) (ht : ((t : Nat) : Int) ≤ (2 ^ (Int.toNat (2 * F 3)))), ((2 ^ (Int.toNat (2 * F 3))) - ((t : Nat) : Int) : Int) < n15 → ∀ (H : Heap) (lc : List Loc), va_P D vwCl (wM cI ad (u1 F 23 (lf (fun y9 : Nat => mx (mm F (wt F R (y9 : Int))) (Int.toNat (F 7))) t)) (uR R 6 (tA (F 3) s (R 6)))) H → va_S A st.heap H lc → ∀ (ls : Array Slot), lv_has ls 6 [(4, .int (iI (((t : Nat) : Int)))), (3, .int (iI ((am (fun y9 : Nat => mx (mm F (wt F R (y9 : Int))) (Int.toNat (F 7))) t).1))), (2, .int (iI (en (R 6) (Int.toNat (F 3))))), (0, .ref (ad 0)), (1, .int (iI (0)))] → W p l e rm_X4_leastRow_c st mi ar bl mth cd H lc 0 0 Q (F0 mi 15 ls []) := by
    intro n15
    induction n15 with
    | zero => intro t s ht hn9; exfalso; omega
    | succ n15 ih15 =>
      intro t s ht hn9 H lc hP hS ls hl
      refine lv_iload hx hb dX4_leastRow_15 (lv_at hl 0 rfl) ?_
      refine lv_aload_n hx hb dX4_leastRow_17 rfl (lv_at hl 3 rfl) ?_
      refine jc_V C hl.1 (jpreV hE hP 4 0 rfl rfl) (c_X4_rows  hM.works) (cwV 0 C.2.2.2.2 gX4_leastRow_X4_rows rfl rfl rfl (by decide +kernel) ⟨Nat.le_of_ble_eq_true rfl, Nat.le_of_ble_eq_true rfl⟩) (As := []) (v := .int (iI (2 ^ (Int.toNat (2 * (F 3)))))) (hn := rfl) (hst := rfl) (rest := [.int (iI (((t : Nat) : Int)))]) (hW := Nat.le_of_ble_eq_true rfl) (hdg := dX4_leastRow_18) (hf := ⟨Nat.le_of_ble_eq_true rfl, Nat.le_of_ble_eq_true rfl⟩) ?_
      refine jz_icmp_ge (tgt := 95) C dX4_leastRow_21 (by decide) (by omega) (fun h21 => ?_) (fun h21 => ?_)
      · skip
        have hg9 : t = 2 ^ (Int.toNat (2 * F 3)) := (by omega)
        subst hg9
        have hl : lv_has ls 6 [(3, .int (iI ((am (fun y9 : Nat => mx (mm F (wt F R (y9 : Int))) (Int.toNat (F 7))) (2 ^ (Int.toNat (2 * F 3)))).1))), (2, .int (iI (en (R 6) (Int.toNat (F 3))))), (0, .ref (ad 0)), (1, .int (iI (0)))] := lv_sub hl [1, 2, 3, 4] rfl
        refine lv_aload_n hx hb dX4_leastRow_95 rfl (lv_at hl 2 rfl) ?_
        refine lv_iload_n hx hb dX4_leastRow_96 rfl (lv_at hl 1 rfl) ?_
        refine jw_V C hl.1 (jpreV hE hP 4 0 rfl rfl) (c_X4_turnAll (A := A) (jDM hD) (en (R 6) (Int.toNat (F 3))) hM.works (show 0 ≤ (en (R 6) (Int.toNat (F 3))) ∧ (en (R 6) (Int.toNat (F 3))) < 256 from (by omega))) (cwV 1 C.2.2.2.2 gX4_leastRow_X4_turnAll rfl rfl rfl (by decide +kernel) ⟨Nat.le_of_ble_eq_true rfl, Nat.le_of_ble_eq_true rfl⟩) (As := [.int (iI (en (R 6) (Int.toNat (F 3))))]) (hn := rfl) (hst := rfl) (rest := []) (hW := Nat.le_of_ble_eq_true rfl) (hdg := dX4_leastRow_97) (hf := ⟨Nat.le_of_ble_eq_true rfl, Nat.le_of_ble_eq_true rfl⟩) hS (fun v9 uq97 H lc hq9 hP hS => ?_)
        subst hq9
        have hP : va_P D vwCl (wM cI ad (u1 F 23 (lf (fun y9 : Nat => mx (mm F (wt F R (y9 : Int))) (Int.toNat (F 7))) (2 ^ (Int.toNat (2 * F 3))))) (uR (uR R 6 (tA (F 3) s (R 6))) 6 (tA (F 3) (en (R 6) (Int.toNat (F 3))) (tA (F 3) s (R 6))))) H := hP
        have hP : va_P D vwCl (wM cI ad (u1 F 23 ((am (fun y9 : Nat => mx (mm F (wt F R (y9 : Int))) (Int.toNat (F 7))) (2 ^ (Int.toNat (2 * F 3)))).2)) R) H := by rw [show lf (fun y9 : Nat => mx (mm F (wt F R (y9 : Int))) (Int.toNat (F 7))) (2 ^ (Int.toNat (2 * F 3))) = (am (fun y9 : Nat => mx (mm F (wt F R (y9 : Int))) (Int.toNat (F 7))) (2 ^ (Int.toNat (2 * F 3)))).2 from by unfold lf; rw [if_neg (by omega)], tA_tA, uR_u, show uR R 6 (tA (F 3) (en (R 6) (Int.toNat (F 3))) (R 6)) = R from wt_en hM] at hP; exact hP
        refine lv_iload_n hx hb dX4_leastRow_100 rfl (lv_at hl 0 rfl) ?_
        exact hret _ () _ _ _ _ dX4_leastRow_101 rfl hP hS
      · skip
        refine lv_aload_n hx hb dX4_leastRow_24 rfl (lv_at hl 3 rfl) ?_
        refine lv_iload hx hb dX4_leastRow_25 (lv_at hl 0 rfl) ?_
        refine jw_V C hl.1 (jpreV hE hP 4 0 rfl rfl) (c_X4_turnAll (A := A) (jDM hD) ((t : Nat) : Int) hM.works (show 0 ≤ ((t : Nat) : Int) ∧ ((t : Nat) : Int) < 256 from (by omega))) (cwV 1 C.2.2.2.2 gX4_leastRow_X4_turnAll rfl rfl rfl (by decide +kernel) ⟨Nat.le_of_ble_eq_true rfl, Nat.le_of_ble_eq_true rfl⟩) (As := [.int (iI (((t : Nat) : Int)))]) (hn := rfl) (hst := rfl) (rest := []) (hW := Nat.le_of_ble_eq_true rfl) (hdg := dX4_leastRow_27) (hf := ⟨Nat.le_of_ble_eq_true rfl, Nat.le_of_ble_eq_true rfl⟩) hS (fun v9 uq27 H lc hq9 hP hS => ?_)
        subst hq9
        have hP : va_P D vwCl (wM cI ad (u1 F 23 (lf (fun y9 : Nat => mx (mm F (wt F R (y9 : Int))) (Int.toNat (F 7))) t)) (uR (uR R 6 (tA (F 3) s (R 6))) 6 (tA (F 3) ((t : Nat) : Int) (tA (F 3) s (R 6))))) H := hP
        have hP : va_P D vwCl (wM cI ad (u1 F 23 (lf (fun y9 : Nat => mx (mm F (wt F R (y9 : Int))) (Int.toNat (F 7))) t)) (uR R 6 (tA (F 3) (t : Int) (R 6)))) H := by rw [tA_tA] at hP; exact hP
        have hbv : ∀ x : Nat, x ≤ t → 0 ≤ (fun y9 : Nat => mx (mm F (wt F R (y9 : Int))) (Int.toNat (F 7))) x ∧ (fun y9 : Nat => mx (mm F (wt F R (y9 : Int))) (Int.toNat (F 7))) x < 1000000 := fun x _ => hgb x
        have hgv := hgb t
        have hlf := lf_bd (g := (fun y9 : Nat => mx (mm F (wt F R (y9 : Int))) (Int.toNat (F 7)))) (n := t) (fun x _ => hgb x)
        have ham := am_bd (g := (fun y9 : Nat => mx (mm F (wt F R (y9 : Int))) (Int.toNat (F 7)))) (n := t) (fun x _ => hgb x)
        have ham2 : (am (fun y9 : Nat => mx (mm F (wt F R (y9 : Int))) (Int.toNat (F 7))) t).1 < 257 := by have h5 := ham.2.1; split at h5 <;> omega
        have hMt : MI F (uR R 6 (tA (F 3) (t : Int) (R 6))) := hM.wt
        refine lv_iload_n hx hb dX4_leastRow_30 rfl (lv_at hl 4 rfl) ?_
        refine jz_if_eq (tgt := 41) C dX4_leastRow_31 (by decide) (by omega) (fun h31 => ?_) (fun h31 => ?_)
        · skip
          refine lv_aload_n hx hb dX4_leastRow_41 rfl (lv_at hl 3 rfl) ?_
          refine jc_V C hl.1 (jpreV hE hP 4 0 rfl rfl) (c_X4_mostMinded  hMt) (cwV 0 C.2.2.2.2 gX4_leastRow_X4_mostMinded rfl rfl rfl (by decide +kernel) ⟨Nat.le_of_ble_eq_true rfl, Nat.le_of_ble_eq_true rfl⟩) (As := []) (v := .int (iI (mx (mm (u1 F 23 (lf (fun y9 : Nat => mx (mm F (wt F R (y9 : Int))) (Int.toNat (F 7))) t)) (uR R 6 (tA (F 3) (t : Int) (R 6)))) (Int.toNat (F 7))))) (hn := rfl) (hst := rfl) (rest := []) (hW := Nat.le_of_ble_eq_true rfl) (hdg := dX4_leastRow_42) (hf := ⟨Nat.le_of_ble_eq_true rfl, Nat.le_of_ble_eq_true rfl⟩) ?_
          refine lv_istore (lv' := [(5, .int (iI (mx (mm (u1 F 23 (lf (fun y9 : Nat => mx (mm F (wt F R (y9 : Int))) (Int.toNat (F 7))) t)) (uR R 6 (tA (F 3) (t : Int) (R 6)))) (Int.toNat (F 7))))), (4, .int (iI (((t : Nat) : Int)))), (3, .int (iI ((am (fun y9 : Nat => mx (mm F (wt F R (y9 : Int))) (Int.toNat (F 7))) t).1))), (2, .int (iI (en (R 6) (Int.toNat (F 3))))), (0, .ref (ad 0)), (1, .int (iI (0)))]) hx hb dX4_leastRow_45 hl (by decide) rfl (fun ls hl => ?_)
          have hl : lv_has ls 6 [(5, .int (iI ((fun y9 : Nat => mx (mm F (wt F R (y9 : Int))) (Int.toNat (F 7))) t))), (4, .int (iI (((t : Nat) : Int)))), (3, .int (iI ((am (fun y9 : Nat => mx (mm F (wt F R (y9 : Int))) (Int.toNat (F 7))) t).1))), (2, .int (iI (en (R 6) (Int.toNat (F 3))))), (0, .ref (ad 0)), (1, .int (iI (0)))] := by
            rw [show ((fun y9 : Nat => mx (mm F (wt F R (y9 : Int))) (Int.toNat (F 7))) t : Int) = mx (mm (u1 F 23 (lf (fun y9 : Nat => mx (mm F (wt F R (y9 : Int))) (Int.toNat (F 7))) t)) (uR R 6 (tA (F 3) (t : Int) (R 6)))) (Int.toNat (F 7)) from by rfl]
            exact hl
          refine lv_aload_n hx hb dX4_leastRow_47 rfl (lv_at hl 4 rfl) ?_
          refine fg_M_leastIs C hin4 hE hP (v := lf (fun y9 : Nat => mx (mm F (wt F R (y9 : Int))) (Int.toNat (F 7))) t) (List.mem_of_getElem? (i := 1) rfl) dX4_leastRow_48 rfl ?_
          refine jz_if_lt (tgt := 63) C dX4_leastRow_51 (by decide) (by omega) (fun h51 => ?_) (fun h51 => ?_)
          · skip
            refine lv_iload hx hb dX4_leastRow_63 (lv_at hl 1 rfl) ?_
            refine lv_goto (tgt := 69) hx hb dX4_leastRow_65 (by decide) ?_
            refine lv_istore_n (lv' := [(3, .int (iI (((t : Nat) : Int)))), (5, .int (iI ((fun y9 : Nat => mx (mm F (wt F R (y9 : Int))) (Int.toNat (F 7))) t))), (4, .int (iI (((t : Nat) : Int)))), (2, .int (iI (en (R 6) (Int.toNat (F 3))))), (0, .ref (ad 0)), (1, .int (iI (0)))]) hx hb dX4_leastRow_69 rfl hl (by decide) rfl (fun ls hl => ?_)
            refine lv_aload_n hx hb dX4_leastRow_70 rfl (lv_at hl 4 rfl) ?_
            refine lv_iload_n hx hb dX4_leastRow_71 rfl (lv_at hl 0 rfl) ?_
            refine lv_iload hx hb dX4_leastRow_72 (lv_at hl 2 rfl) ?_
            refine jz_icmp_ne (tgt := 82) C dX4_leastRow_74 (by decide) (by omega) (fun h74 => ?_) (fun h74 => ?_)
            · exact absurd rfl h74
            · skip
              refine lv_iload hx hb dX4_leastRow_77 (lv_at hl 1 rfl) ?_
              refine lv_goto (tgt := 86) hx hb dX4_leastRow_79 (by decide) ?_
              refine fp_M_leastIs C hin4 hE hP (jDM hD) hS (List.mem_of_getElem? (i := 1) rfl) dX4_leastRow_86 (fun H lc hP hS => ?_)
              refine jz_iinc (k := 2) (z := ((t : Nat) : Int) + 1) (lv' := [(4, .int (iI (((t : Nat) : Int) + 1))), (3, .int (iI (((t : Nat) : Int)))), (5, .int (iI ((fun y9 : Nat => mx (mm F (wt F R (y9 : Int))) (Int.toNat (F 7))) t))), (2, .int (iI (en (R 6) (Int.toNat (F 3))))), (0, .ref (ad 0)), (1, .int (iI (0)))]) C dX4_leastRow_89 hl rfl rfl (by decide) rfl (fun ls hl => ?_)
              refine lv_goto (tgt := 15) hx hb dX4_leastRow_92 (by decide) ?_
              have hl9 : lv_has ls 6 [(4, .int (iI (((t + 1 : Nat) : Int)))), (3, .int (iI ((am (fun y9 : Nat => mx (mm F (wt F R (y9 : Int))) (Int.toNat (F 7))) (t + 1)).1))), (2, .int (iI (en (R 6) (Int.toNat (F 3))))), (0, .ref (ad 0)), (1, .int (iI (0)))] := by
                rw [show ((am (fun y9 : Nat => mx (mm F (wt F R (y9 : Int))) (Int.toNat (F 7))) (t + 1)).1 : Int) = ((t : Nat) : Int) from by first | rw [lf_a hbv h51] | rw [lf_b hbv h60] | rw [(lf_c hbv h51 h60).1]]
                exact lv_sub hl [0, 1, 3, 4, 5] rfl
              exact ih15 (t + 1) (t : Int) (by omega) (by omega) _ _ (by first | (rw [lf_s, lf_a hbv h51]; exact hP) | (rw [lf_s, lf_b hbv h60]; exact hP) | (rw [lf_d hbv h51 h60]; exact hP)) hS ls hl9
          · skip
            refine lv_iload hx hb dX4_leastRow_54 (lv_at hl 0 rfl) ?_
            refine lv_aload_n hx hb dX4_leastRow_56 rfl (lv_at hl 4 rfl) ?_
            refine fg_M_leastIs C hin4 hE hP (v := lf (fun y9 : Nat => mx (mm F (wt F R (y9 : Int))) (Int.toNat (F 7))) t) (List.mem_of_getElem? (i := 1) rfl) dX4_leastRow_57 rfl ?_
            refine jz_icmp_ge (tgt := 68) C dX4_leastRow_60 (by decide) (by omega) (fun h60 => ?_) (fun h60 => ?_)
            · skip
              refine lv_iload_n hx hb dX4_leastRow_68 rfl (lv_at hl 2 rfl) ?_
              refine lv_istore_n (lv' := [(3, .int (iI ((am (fun y9 : Nat => mx (mm F (wt F R (y9 : Int))) (Int.toNat (F 7))) t).1))), (5, .int (iI ((fun y9 : Nat => mx (mm F (wt F R (y9 : Int))) (Int.toNat (F 7))) t))), (4, .int (iI (((t : Nat) : Int)))), (2, .int (iI (en (R 6) (Int.toNat (F 3))))), (0, .ref (ad 0)), (1, .int (iI (0)))]) hx hb dX4_leastRow_69 rfl hl (by decide) rfl (fun ls hl => ?_)
              refine lv_aload_n hx hb dX4_leastRow_70 rfl (lv_at hl 4 rfl) ?_
              refine lv_iload_n hx hb dX4_leastRow_71 rfl (lv_at hl 0 rfl) ?_
              refine lv_iload hx hb dX4_leastRow_72 (lv_at hl 2 rfl) ?_
              refine jz_icmp_ne (tgt := 82) C dX4_leastRow_74 (by decide) (by omega) (fun h74 => ?_) (fun h74 => ?_)
              · skip
                refine lv_aload_n hx hb dX4_leastRow_82 rfl (lv_at hl 4 rfl) ?_
                refine fg_M_leastIs C hin4 hE hP (v := lf (fun y9 : Nat => mx (mm F (wt F R (y9 : Int))) (Int.toNat (F 7))) t) (List.mem_of_getElem? (i := 1) rfl) dX4_leastRow_83 rfl ?_
                refine fp_M_leastIs C hin4 hE hP (jDM hD) hS (List.mem_of_getElem? (i := 1) rfl) dX4_leastRow_86 (fun H lc hP hS => ?_)
                refine jz_iinc (k := 2) (z := ((t : Nat) : Int) + 1) (lv' := [(4, .int (iI (((t : Nat) : Int) + 1))), (3, .int (iI ((am (fun y9 : Nat => mx (mm F (wt F R (y9 : Int))) (Int.toNat (F 7))) t).1))), (5, .int (iI ((fun y9 : Nat => mx (mm F (wt F R (y9 : Int))) (Int.toNat (F 7))) t))), (2, .int (iI (en (R 6) (Int.toNat (F 3))))), (0, .ref (ad 0)), (1, .int (iI (0)))]) C dX4_leastRow_89 hl rfl rfl (by decide) rfl (fun ls hl => ?_)
                refine lv_goto (tgt := 15) hx hb dX4_leastRow_92 (by decide) ?_
                have hl9 : lv_has ls 6 [(4, .int (iI (((t + 1 : Nat) : Int)))), (3, .int (iI ((am (fun y9 : Nat => mx (mm F (wt F R (y9 : Int))) (Int.toNat (F 7))) (t + 1)).1))), (2, .int (iI (en (R 6) (Int.toNat (F 3))))), (0, .ref (ad 0)), (1, .int (iI (0)))] := by
                  rw [show ((am (fun y9 : Nat => mx (mm F (wt F R (y9 : Int))) (Int.toNat (F 7))) (t + 1)).1 : Int) = (am (fun y9 : Nat => mx (mm F (wt F R (y9 : Int))) (Int.toNat (F 7))) t).1 from by first | rw [lf_a hbv h51] | rw [lf_b hbv h60] | rw [(lf_c hbv h51 h60).1]]
                  exact lv_sub hl [0, 1, 3, 4, 5] rfl
                exact ih15 (t + 1) (t : Int) (by omega) (by omega) _ _ (by first | (rw [lf_s, lf_a hbv h51]; exact hP) | (rw [lf_s, lf_b hbv h60]; exact hP) | (rw [lf_d hbv h51 h60]; exact hP)) hS ls hl9
              · exact absurd h74 (lf_c hbv h51 h60).2
            · skip
              refine lv_iload hx hb dX4_leastRow_63 (lv_at hl 1 rfl) ?_
              refine lv_goto (tgt := 69) hx hb dX4_leastRow_65 (by decide) ?_
              refine lv_istore_n (lv' := [(3, .int (iI (((t : Nat) : Int)))), (5, .int (iI ((fun y9 : Nat => mx (mm F (wt F R (y9 : Int))) (Int.toNat (F 7))) t))), (4, .int (iI (((t : Nat) : Int)))), (2, .int (iI (en (R 6) (Int.toNat (F 3))))), (0, .ref (ad 0)), (1, .int (iI (0)))]) hx hb dX4_leastRow_69 rfl hl (by decide) rfl (fun ls hl => ?_)
              refine lv_aload_n hx hb dX4_leastRow_70 rfl (lv_at hl 4 rfl) ?_
              refine lv_iload_n hx hb dX4_leastRow_71 rfl (lv_at hl 0 rfl) ?_
              refine lv_iload hx hb dX4_leastRow_72 (lv_at hl 2 rfl) ?_
              refine jz_icmp_ne (tgt := 82) C dX4_leastRow_74 (by decide) (by omega) (fun h74 => ?_) (fun h74 => ?_)
              · exact absurd rfl h74
              · skip
                refine lv_iload hx hb dX4_leastRow_77 (lv_at hl 1 rfl) ?_
                refine lv_goto (tgt := 86) hx hb dX4_leastRow_79 (by decide) ?_
                refine fp_M_leastIs C hin4 hE hP (jDM hD) hS (List.mem_of_getElem? (i := 1) rfl) dX4_leastRow_86 (fun H lc hP hS => ?_)
                refine jz_iinc (k := 2) (z := ((t : Nat) : Int) + 1) (lv' := [(4, .int (iI (((t : Nat) : Int) + 1))), (3, .int (iI (((t : Nat) : Int)))), (5, .int (iI ((fun y9 : Nat => mx (mm F (wt F R (y9 : Int))) (Int.toNat (F 7))) t))), (2, .int (iI (en (R 6) (Int.toNat (F 3))))), (0, .ref (ad 0)), (1, .int (iI (0)))]) C dX4_leastRow_89 hl rfl rfl (by decide) rfl (fun ls hl => ?_)
                refine lv_goto (tgt := 15) hx hb dX4_leastRow_92 (by decide) ?_
                have hl9 : lv_has ls 6 [(4, .int (iI (((t + 1 : Nat) : Int)))), (3, .int (iI ((am (fun y9 : Nat => mx (mm F (wt F R (y9 : Int))) (Int.toNat (F 7))) (t + 1)).1))), (2, .int (iI (en (R 6) (Int.toNat (F 3))))), (0, .ref (ad 0)), (1, .int (iI (0)))] := by
                  rw [show ((am (fun y9 : Nat => mx (mm F (wt F R (y9 : Int))) (Int.toNat (F 7))) (t + 1)).1 : Int) = ((t : Nat) : Int) from by first | rw [lf_a hbv h51] | rw [lf_b hbv h60] | rw [(lf_c hbv h51 h60).1]]
                  exact lv_sub hl [0, 1, 3, 4, 5] rfl
                exact ih15 (t + 1) (t : Int) (by omega) (by omega) _ _ (by first | (rw [lf_s, lf_a hbv h51]; exact hP) | (rw [lf_s, lf_b hbv h60]; exact hP) | (rw [lf_d hbv h51 h60]; exact hP)) hS ls hl9
        · exact absurd h31 (by decide)
  exact key15 (Int.toNat ((2 ^ (Int.toNat (2 * F 3))) - ((0 : Nat) : Int)) + 1) 0 (en (R 6) (Int.toNat (F 3))) (by omega) (by omega) _ _ (by rw [show uR R 6 (tA (F 3) (en (R 6) (Int.toNat (F 3))) (R 6)) = R from wt_en hM]; exact hP) hS ls (lv_sub hl [0, 1, 2, 3, 4] rfl)
def k_X4_ofWard (F : Nat → Int) (R : Nat → Nat → Int) (k : Int) (what : Int) : Int := if ¬ (0 ≤ k ∧ k ≤ (F 7) - 1) then (-1) else (if what = 0 then (R 9 (Int.toNat k)) else (if what = 1 then (R 10 (Int.toNat k)) else (if what = 2 then (R 8 (Int.toNat k)) else (if what = 3 then (fz (R 9 (Int.toNat k)) (R 10 (Int.toNat k))) else (-2)))))
abbrev rm_X4_ofWard : Room := { frames := 2, cells := 0, slots := 0, locals := 46 }
set_option maxHeartbeats 4000000 in
set_option maxRecDepth 100000 in
theorem c_X4_ofWard {l : Launch} {D : va_G} {cI cS : ClassId} {ad : Nat → Nat} {F : Nat → Int} {R : Nat → Nat → Int}  (k : Int) (what : Int)  (hS9 : MV F R) (hr_k : -2147483648 ≤ k ∧ k < 2147483648) (hr_what : -2147483648 ≤ what ∧ what < 2147483648): JS l yX4_ofWard wsX4_ofWard rm_X4_ofWard (jB D cI cS (wM cI ad F R)) [.ref (ad 0), .int (iI (k)), .int (iI (what))] (.int (iI (k_X4_ofWard F R k what))) := by
  refine JS.mkI rfl (by decide +kernel) rfl (Nat.le_of_ble_eq_true rfl) ?_
  intro p e st mi ar bl mth cd Q ls C hB hl hret
  obtain ⟨hE, hP⟩ := hB
  have hx := C.1
  have hb := C.2.1
  have hl : lv_has ls 3 [(0, .ref (ad 0)), (1, .int (iI (k))), (2, .int (iI (what)))] := hl
  have hin4 : ∀ w ∈ wsX40, w ∈ wsX4_ofWard := fun _ h => List.mem_cons_of_mem _ (List.mem_append_right _ h)
  have hM := hS9.town
  have hW := hM.works
  have hK := hM.wards
  have hlaw := hM.law
  have hrd := hM.reads
  have hsp := hM.spots
  have hhi := hM.high
  have hwd := hM.wide
  have hP8 := pw8 hW
  have hen := en_bd4 hW hM.vane
  have h3 : ∀ x : Nat, x < 6 → (0 ≤ R 9 x ∧ R 9 x ≤ 2) ∧ (0 ≤ R 10 x ∧ R 10 x ≤ 9) ∧ (0 ≤ R 8 x ∧ R 8 x < 24) := fun x hx => ⟨hM.kind x hx, hM.nose x hx, hM.wcell x hx⟩
  refine lv_aload_n hx hb dX4_ofWard_0 rfl (lv_at hl 0 rfl) ?_
  refine lv_iload_n hx hb dX4_ofWard_1 rfl (lv_at hl 1 rfl) ?_
  refine jc_V C hl.1 (jpreV hE hP 4 0 rfl rfl) (c_X4_noWard k hM.wards (show -2147483648 ≤ k ∧ k < 2147483648 from (by omega))) (cwV 1 C.2.2.2.2 gX4_ofWard_X4_noWard rfl rfl rfl (by decide +kernel) ⟨Nat.le_of_ble_eq_true rfl, Nat.le_of_ble_eq_true rfl⟩) (As := [.int (iI (k))]) (v := .int (iI (if ¬ (0 ≤ k ∧ k ≤ (F 7) - 1) then 1 else 0))) (hn := rfl) (hst := rfl) (rest := []) (hW := Nat.le_of_ble_eq_true rfl) (hdg := dX4_ofWard_2) (hf := ⟨Nat.le_of_ble_eq_true rfl, Nat.le_of_ble_eq_true rfl⟩) ?_
  refine jz_bool_eq (tgt := 10) C dX4_ofWard_5 (by decide) (fun h5 => ?_) (fun h5 => ?_)
  · skip
    refine lv_iload_n hx hb dX4_ofWard_10 rfl (lv_at hl 2 rfl) ?_
    refine jz_sub (P := what = 0) (fun h11_0 => ?_) (fun h11_0 => ?_)
    · refine jz_tabIn (tgt := 40) C 0 dX4_ofWard_11 (by omega) rfl (by decide) ?_
      refine lv_aload_n hx hb dX4_ofWard_40 rfl (lv_at hl 0 rfl) ?_
      refine fg_M_kindOf C hin4 hE hP (List.mem_of_getElem? (i := 1) rfl) dX4_ofWard_41 ?_
      refine lv_iload_n hx hb dX4_ofWard_44 rfl (lv_at hl 1 rfl) ?_
      refine fl_M_kindOf C hE hP (v := R 9 (Int.toNat k)) dX4_ofWard_45 (by omega) rfl ?_
      exact jz_ret (show (k_X4_ofWard F R k what : Int) = R 9 (Int.toNat k) from by rw [k_X4_ofWard, (if_neg h5), (if_pos h11_0)]) (hret _ _ dX4_ofWard_46)
    refine jz_sub (P := what = 1) (fun h11_1 => ?_) (fun h11_1 => ?_)
    · refine jz_tabIn (tgt := 47) C 1 dX4_ofWard_11 (by omega) rfl (by decide) ?_
      refine lv_aload_n hx hb dX4_ofWard_47 rfl (lv_at hl 0 rfl) ?_
      refine fg_M_noseOf C hin4 hE hP (List.mem_of_getElem? (i := 2) rfl) dX4_ofWard_48 ?_
      refine lv_iload_n hx hb dX4_ofWard_51 rfl (lv_at hl 1 rfl) ?_
      refine fl_M_noseOf C hE hP (v := R 10 (Int.toNat k)) dX4_ofWard_52 (by omega) rfl ?_
      exact jz_ret (show (k_X4_ofWard F R k what : Int) = R 10 (Int.toNat k) from by rw [k_X4_ofWard, (if_neg h5), (if_neg h11_0), (if_pos h11_1)]) (hret _ _ dX4_ofWard_53)
    refine jz_sub (P := what = 2) (fun h11_2 => ?_) (fun h11_2 => ?_)
    · refine jz_tabIn (tgt := 54) C 2 dX4_ofWard_11 (by omega) rfl (by decide) ?_
      refine lv_aload_n hx hb dX4_ofWard_54 rfl (lv_at hl 0 rfl) ?_
      refine fg_M_wardIn C hin4 hE hP (List.mem_of_getElem? (i := 3) rfl) dX4_ofWard_55 ?_
      refine lv_iload_n hx hb dX4_ofWard_58 rfl (lv_at hl 1 rfl) ?_
      refine fl_M_wardIn C hE hP (v := R 8 (Int.toNat k)) dX4_ofWard_59 (by omega) rfl ?_
      exact jz_ret (show (k_X4_ofWard F R k what : Int) = R 8 (Int.toNat k) from by rw [k_X4_ofWard, (if_neg h5), (if_neg h11_0), (if_neg h11_1), (if_pos h11_2)]) (hret _ _ dX4_ofWard_60)
    refine jz_sub (P := what = 3) (fun h11_3 => ?_) (fun h11_3 => ?_)
    · refine jz_tabIn (tgt := 61) C 3 dX4_ofWard_11 (by omega) rfl (by decide) ?_
      refine lv_aload_n hx hb dX4_ofWard_61 rfl (lv_at hl 0 rfl) ?_
      refine lv_iload_n hx hb dX4_ofWard_62 rfl (lv_at hl 1 rfl) ?_
      refine jc_V C hl.1 (jpreV hE hP 4 0 rfl rfl) (c_X4_mindsOfOne k (by first | exact hM | assumption) (show 0 ≤ k ∧ k < 6 from (by omega))) (cwV 1 C.2.2.2.2 gX4_ofWard_X4_mindsOfOne rfl rfl rfl (by decide +kernel) ⟨Nat.le_of_ble_eq_true rfl, Nat.le_of_ble_eq_true rfl⟩) (As := [.int (iI (k))]) (v := .int (iI (fz (R 9 (Int.toNat k)) (R 10 (Int.toNat k))))) (hn := rfl) (hst := rfl) (rest := []) (hW := Nat.le_of_ble_eq_true rfl) (hdg := dX4_ofWard_63) (hf := ⟨Nat.le_of_ble_eq_true rfl, Nat.le_of_ble_eq_true rfl⟩) ?_
      exact jz_ret (show (k_X4_ofWard F R k what : Int) = fz (R 9 (Int.toNat k)) (R 10 (Int.toNat k)) from by rw [k_X4_ofWard, (if_neg h5), (if_neg h11_0), (if_neg h11_1), (if_neg h11_2), (if_pos h11_3)]) (hret _ _ dX4_ofWard_66)
    refine jz_tabOut (tgt := 67) C dX4_ofWard_11 (by omega) (by decide) ?_
    refine jz_bipush C dX4_ofWard_67 (by decide +kernel) ?_
    exact jz_ret (show (k_X4_ofWard F R k what : Int) = -2 from by rw [k_X4_ofWard, (if_neg h5), (if_neg h11_0), (if_neg h11_1), (if_neg h11_2), (if_neg h11_3)]) (hret _ _ dX4_ofWard_69)
  · skip
    refine jz_const C dX4_ofWard_8 ?_
    exact jz_ret (show (k_X4_ofWard F R k what : Int) = -1 from by rw [k_X4_ofWard, (if_pos h5)]) (hret _ _ dX4_ofWard_9)
def k_X4_ofWork (F : Nat → Int) (R : Nat → Nat → Int) (w : Int) (what : Int) : Int := if ¬ (0 ≤ w ∧ w ≤ (F 3) - 1) then (-1) else (if what = 0 then (R 4 (Int.toNat w)) else (if what = 1 then (R 5 (Int.toNat w)) else (if what = 2 then (R 6 (Int.toNat w)) else (-2))))
abbrev rm_X4_ofWork : Room := { frames := 2, cells := 0, slots := 0, locals := 46 }
set_option maxHeartbeats 4000000 in
set_option maxRecDepth 100000 in
theorem c_X4_ofWork {l : Launch} {D : va_G} {cI cS : ClassId} {ad : Nat → Nat} {F : Nat → Int} {R : Nat → Nat → Int}  (w : Int) (what : Int)  (hS9 : MV F R) (hr_w : -2147483648 ≤ w ∧ w < 2147483648) (hr_what : -2147483648 ≤ what ∧ what < 2147483648): JS l yX4_ofWork wsX4_ofWork rm_X4_ofWork (jB D cI cS (wM cI ad F R)) [.ref (ad 0), .int (iI (w)), .int (iI (what))] (.int (iI (k_X4_ofWork F R w what))) := by
  refine JS.mkI rfl (by decide +kernel) rfl (Nat.le_of_ble_eq_true rfl) ?_
  intro p e st mi ar bl mth cd Q ls C hB hl hret
  obtain ⟨hE, hP⟩ := hB
  have hx := C.1
  have hb := C.2.1
  have hl : lv_has ls 3 [(0, .ref (ad 0)), (1, .int (iI (w))), (2, .int (iI (what)))] := hl
  have hin4 : ∀ w ∈ wsX40, w ∈ wsX4_ofWork := fun _ h => List.mem_cons_of_mem _ (List.mem_append_right _ h)
  have hM := hS9.town
  have hW := hM.works
  have hK := hM.wards
  have hlaw := hM.law
  have hrd := hM.reads
  have hsp := hM.spots
  have hhi := hM.high
  have hwd := hM.wide
  have hP8 := pw8 hW
  have hen := en_bd4 hW hM.vane
  refine lv_aload_n hx hb dX4_ofWork_0 rfl (lv_at hl 0 rfl) ?_
  refine lv_iload_n hx hb dX4_ofWork_1 rfl (lv_at hl 1 rfl) ?_
  refine jc_V C hl.1 (jpreV hE hP 4 0 rfl rfl) (c_X4_noWork w hM.works (show -2147483648 ≤ w ∧ w < 2147483648 from (by omega))) (cwV 1 C.2.2.2.2 gX4_ofWork_X4_noWork rfl rfl rfl (by decide +kernel) ⟨Nat.le_of_ble_eq_true rfl, Nat.le_of_ble_eq_true rfl⟩) (As := [.int (iI (w))]) (v := .int (iI (if ¬ (0 ≤ w ∧ w ≤ (F 3) - 1) then 1 else 0))) (hn := rfl) (hst := rfl) (rest := []) (hW := Nat.le_of_ble_eq_true rfl) (hdg := dX4_ofWork_2) (hf := ⟨Nat.le_of_ble_eq_true rfl, Nat.le_of_ble_eq_true rfl⟩) ?_
  refine jz_bool_eq (tgt := 10) C dX4_ofWork_5 (by decide) (fun h5 => ?_) (fun h5 => ?_)
  · skip
    refine lv_iload_n hx hb dX4_ofWork_10 rfl (lv_at hl 2 rfl) ?_
    refine jz_if_ne (tgt := 23) C dX4_ofWork_11 (by decide) (by omega) (fun h11 => ?_) (fun h11 => ?_)
    · skip
      refine lv_iload_n hx hb dX4_ofWork_23 rfl (lv_at hl 2 rfl) ?_
      refine jz_const C dX4_ofWork_24 ?_
      refine jz_icmp_ne (tgt := 37) C dX4_ofWork_25 (by decide) (by omega) (fun h25 => ?_) (fun h25 => ?_)
      · skip
        refine lv_iload_n hx hb dX4_ofWork_37 rfl (lv_at hl 2 rfl) ?_
        refine jz_const C dX4_ofWork_38 ?_
        refine jz_icmp_ne (tgt := 51) C dX4_ofWork_39 (by decide) (by omega) (fun h39 => ?_) (fun h39 => ?_)
        · skip
          refine jz_bipush C dX4_ofWork_51 (by decide +kernel) ?_
          exact jz_ret (show (k_X4_ofWork F R w what : Int) = -2 from by rw [k_X4_ofWork, (if_neg h5), (if_neg (h11)), (if_neg (h25)), (if_neg (h39))]) (hret _ _ dX4_ofWork_53)
        · skip
          refine lv_aload_n hx hb dX4_ofWork_42 rfl (lv_at hl 0 rfl) ?_
          refine fg_M_vaneOf C hin4 hE hP (List.mem_of_getElem? (i := 3) rfl) dX4_ofWork_43 ?_
          refine lv_iload_n hx hb dX4_ofWork_46 rfl (lv_at hl 1 rfl) ?_
          refine fl_M_vaneOf C hE hP (v := R 6 (Int.toNat w)) dX4_ofWork_47 (by omega) rfl ?_
          refine lv_goto (tgt := 53) hx hb dX4_ofWork_48 (by decide) ?_
          exact jz_ret (show (k_X4_ofWork F R w what : Int) = R 6 (Int.toNat w) from by rw [k_X4_ofWork, (if_neg h5), (if_neg (h11)), (if_neg (h25)), (if_pos h39)]) (hret _ _ dX4_ofWork_53)
      · skip
        refine lv_aload_n hx hb dX4_ofWork_28 rfl (lv_at hl 0 rfl) ?_
        refine fg_M_strongOf C hin4 hE hP (List.mem_of_getElem? (i := 2) rfl) dX4_ofWork_29 ?_
        refine lv_iload_n hx hb dX4_ofWork_32 rfl (lv_at hl 1 rfl) ?_
        refine fl_M_strongOf C hE hP (v := R 5 (Int.toNat w)) dX4_ofWork_33 (by omega) rfl ?_
        refine lv_goto (tgt := 53) hx hb dX4_ofWork_34 (by decide) ?_
        exact jz_ret (show (k_X4_ofWork F R w what : Int) = R 5 (Int.toNat w) from by rw [k_X4_ofWork, (if_neg h5), (if_neg (h11)), (if_pos h25)]) (hret _ _ dX4_ofWork_53)
    · skip
      refine lv_aload_n hx hb dX4_ofWork_14 rfl (lv_at hl 0 rfl) ?_
      refine fg_M_workIn C hin4 hE hP (List.mem_of_getElem? (i := 1) rfl) dX4_ofWork_15 ?_
      refine lv_iload_n hx hb dX4_ofWork_18 rfl (lv_at hl 1 rfl) ?_
      refine fl_M_workIn C hE hP (v := R 4 (Int.toNat w)) dX4_ofWork_19 (by omega) rfl ?_
      refine lv_goto (tgt := 53) hx hb dX4_ofWork_20 (by decide) ?_
      exact jz_ret (show (k_X4_ofWork F R w what : Int) = R 4 (Int.toNat w) from by rw [k_X4_ofWork, (if_neg h5), (if_pos h11)]) (hret _ _ dX4_ofWork_53)
  · skip
    refine jz_const C dX4_ofWork_8 ?_
    exact jz_ret (show (k_X4_ofWork F R w what : Int) = -1 from by rw [k_X4_ofWork, (if_pos h5)]) (hret _ _ dX4_ofWork_9)
def k_X4_law (F : Nat → Int) (R : Nat → Nat → Int) (v : Int) : Int × (Nat → Int) × (Nat → Nat → Int) := if 0 ≤ v ∧ v ≤ 2 then (if (F 1) = 0 then ((-3, F, R)) else ((F 11, (u1 F 11 v), R))) else ((-2, F, R))
abbrev rm_X4_law : Room := { frames := 1, cells := 0, slots := 0, locals := 25 }
set_option maxHeartbeats 4000000 in
set_option maxRecDepth 100000 in
theorem c_X4_law {l : Launch} {D : va_G} {cI cS : ClassId} {ad : Nat → Nat} {F : Nat → Int} {R : Nat → Nat → Int} {A : Nat → Prop} (hD : va_D A (wM cI ad F R))  (v : Int)  (hS9 : MV F R) (hr_v : -2147483648 ≤ v ∧ v < 2147483648): JV l yX4_law wsX4_law rm_X4_law (jB D cI cS (wM cI ad F R)) A [.ref (ad 0), .int (iI (v))] (fun v9 (u9 : (Nat → Int) × (Nat → Nat → Int)) => v9 = some (.int (iI (k_X4_law F R v).1)) ∧ u9.1 = (k_X4_law F R v).2.1 ∧ u9.2 = (k_X4_law F R v).2.2) (fun u9 H => va_P D vwCl (wM cI ad u9.1 u9.2) H) := by
  refine JV.mkI rfl (by decide +kernel) rfl (Nat.le_of_ble_eq_true rfl) ?_
  intro p e st mi ar bl mth cd Q ls C hB hl hret
  obtain ⟨hE, hP⟩ := hB
  have hx := C.1
  have hb := C.2.1
  have hl : lv_has ls 3 [(0, .ref (ad 0)), (1, .int (iI (v)))] := hl
  have hin4 : ∀ w ∈ wsX40, w ∈ wsX4_law := fun _ h => List.mem_cons_of_mem _ (List.mem_append_right _ h)
  suffices hgo : ∀ (H : Heap) (lc : List Loc), va_P D vwCl (wM cI ad F R) H → va_S A st.heap H lc → W p l e rm_X4_law st mi ar bl mth cd H lc 0 0 Q (F0 mi 0 ls []) from hgo _ _ hP va_S.rf
  clear hP
  intro H lc hP hS
  have hM := hS9.town
  have hW := hM.works
  have hK := hM.wards
  have hlaw := hM.law
  have hrd := hM.reads
  have hsp := hM.spots
  have hhi := hM.high
  have hwd := hM.wide
  have hP8 := pw8 hW
  have hen := en_bd4 hW hM.vane
  refine lv_iload_n hx hb dX4_law_0 rfl (lv_at hl 1 rfl) ?_
  refine jz_i2l C dX4_law_1 (by omega) ?_
  refine jz_lconst (z := 0) C rfl dX4_law_2 ?_
  refine jz_ldc2 (z := 2) C (List.mem_of_getElem? (i := 1) rfl) (by decide +kernel) dX4_law_3 ?_
  refine jc_S C hl.1 (jpreS hE hP) (c_X4_in v 0 2 (show -9223372036854775808 ≤ v ∧ v < 9223372036854775808 from (by omega)) (show -9223372036854775808 ≤ 0 ∧ 0 < 9223372036854775808 from (by omega)) (show -9223372036854775808 ≤ 2 ∧ 2 < 9223372036854775808 from (by omega))) (va_cwS 3 C.2.2.2.2 gX4_law_X4_in rfl rfl rfl (by decide +kernel) ⟨Nat.le_of_ble_eq_true rfl, Nat.le_of_ble_eq_true rfl⟩) (As := [.long (lI (v)), .long (lI (0)), .long (lI (2))]) (v := .int (iI (if 0 ≤ v ∧ v ≤ 2 then 1 else 0))) (hn := rfl) (hst := rfl) (rest := []) (hW := Nat.le_of_ble_eq_true rfl) (hdg := dX4_law_6) (hf := ⟨Nat.le_of_ble_eq_true rfl, Nat.le_of_ble_eq_true rfl⟩) ?_
  refine jz_bool_ne (tgt := 15) C dX4_law_9 (by decide) (fun h9 => ?_) (fun h9 => ?_)
  · skip
    refine lv_aload_n hx hb dX4_law_15 rfl (lv_at hl 0 rfl) ?_
    refine fg_M_high C hin4 hE hP (v := F 1) (List.mem_of_getElem? (i := 2) rfl) dX4_law_16 rfl ?_
    refine jz_if_ne (tgt := 25) C dX4_law_19 (by decide) (by omega) (fun h19 => ?_) (fun h19 => ?_)
    · skip
      refine lv_aload_n hx hb dX4_law_25 rfl (lv_at hl 0 rfl) ?_
      refine fg_M_lawNow C hin4 hE hP (v := F 11) (List.mem_of_getElem? (i := 3) rfl) dX4_law_26 rfl ?_
      refine lv_istore_n (lv' := [(2, .int (iI (F 11))), (0, .ref (ad 0)), (1, .int (iI (v)))]) hx hb dX4_law_29 rfl hl (by decide) rfl (fun ls hl => ?_)
      refine lv_aload_n hx hb dX4_law_30 rfl (lv_at hl 1 rfl) ?_
      refine lv_iload_n hx hb dX4_law_31 rfl (lv_at hl 2 rfl) ?_
      refine fp_M_lawNow C hin4 hE hP (jDM hD) hS (List.mem_of_getElem? (i := 3) rfl) dX4_law_32 (fun H lc hP hS => ?_)
      refine lv_iload_n hx hb dX4_law_35 rfl (lv_at hl 0 rfl) ?_
      have hk9 : k_X4_law F R v = (F 11, (u1 F 11 v), R) := by rw [k_X4_law, (if_pos h9), (if_neg (h19))]
      exact hret _ ((u1 F 11 v), R) _ _ _ _ dX4_law_36 ⟨by rw [hk9], by rw [hk9], by rw [hk9]⟩ hP hS
    · skip
      refine jz_bipush C dX4_law_22 (by decide +kernel) ?_
      have hk9 : k_X4_law F R v = (-3, F, R) := by rw [k_X4_law, (if_pos h9), (if_pos h19)]
      exact hret _ (F, R) _ _ _ _ dX4_law_24 ⟨by rw [hk9], by rw [hk9], by rw [hk9]⟩ hP hS
  · skip
    refine jz_bipush C dX4_law_12 (by decide +kernel) ?_
    have hk9 : k_X4_law F R v = (-2, F, R) := by rw [k_X4_law, (if_neg h9)]
    exact hret _ (F, R) _ _ _ _ dX4_law_14 ⟨by rw [hk9], by rw [hk9], by rw [hk9]⟩ hP hS
def k_X4_turn (F : Nat → Int) (R : Nat → Nat → Int) (w : Int) (v : Int) : Int × (Nat → Int) × (Nat → Nat → Int) := if ¬ (0 ≤ w ∧ w ≤ (F 3) - 1) then ((-1, F, R)) else (if 0 ≤ v ∧ v ≤ 3 then ((R 6 (Int.toNat w), F, (uR R 6 (u1 (R 6) (Int.toNat w) v)))) else ((-2, F, R)))
abbrev rm_X4_turn : Room := { frames := 2, cells := 0, slots := 0, locals := 46 }
set_option maxHeartbeats 4000000 in
set_option maxRecDepth 100000 in
theorem c_X4_turn {l : Launch} {D : va_G} {cI cS : ClassId} {ad : Nat → Nat} {F : Nat → Int} {R : Nat → Nat → Int} {A : Nat → Prop} (hD : va_D A (wM cI ad F R))  (w : Int) (v : Int)  (hS9 : MV F R) (hr_w : -2147483648 ≤ w ∧ w < 2147483648) (hr_v : -2147483648 ≤ v ∧ v < 2147483648): JV l yX4_turn wsX4_turn rm_X4_turn (jB D cI cS (wM cI ad F R)) A [.ref (ad 0), .int (iI (w)), .int (iI (v))] (fun v9 (u9 : (Nat → Int) × (Nat → Nat → Int)) => v9 = some (.int (iI (k_X4_turn F R w v).1)) ∧ u9.1 = (k_X4_turn F R w v).2.1 ∧ u9.2 = (k_X4_turn F R w v).2.2) (fun u9 H => va_P D vwCl (wM cI ad u9.1 u9.2) H) := by
  refine JV.mkI rfl (by decide +kernel) rfl (Nat.le_of_ble_eq_true rfl) ?_
  intro p e st mi ar bl mth cd Q ls C hB hl hret
  obtain ⟨hE, hP⟩ := hB
  have hx := C.1
  have hb := C.2.1
  have hl : lv_has ls 4 [(0, .ref (ad 0)), (1, .int (iI (w))), (2, .int (iI (v)))] := hl
  have hin4 : ∀ w ∈ wsX40, w ∈ wsX4_turn := fun _ h => List.mem_cons_of_mem _ (List.mem_append_right _ h)
  suffices hgo : ∀ (H : Heap) (lc : List Loc), va_P D vwCl (wM cI ad F R) H → va_S A st.heap H lc → W p l e rm_X4_turn st mi ar bl mth cd H lc 0 0 Q (F0 mi 0 ls []) from hgo _ _ hP va_S.rf
  clear hP
  intro H lc hP hS
  have hM := hS9.town
  have hW := hM.works
  have hK := hM.wards
  have hlaw := hM.law
  have hrd := hM.reads
  have hsp := hM.spots
  have hhi := hM.high
  have hwd := hM.wide
  have hP8 := pw8 hW
  have hen := en_bd4 hW hM.vane
  refine lv_aload_n hx hb dX4_turn_0 rfl (lv_at hl 0 rfl) ?_
  refine lv_iload_n hx hb dX4_turn_1 rfl (lv_at hl 1 rfl) ?_
  refine jc_V C hl.1 (jpreV hE hP 4 0 rfl rfl) (c_X4_noWork w hM.works (show -2147483648 ≤ w ∧ w < 2147483648 from (by omega))) (cwV 1 C.2.2.2.2 gX4_turn_X4_noWork rfl rfl rfl (by decide +kernel) ⟨Nat.le_of_ble_eq_true rfl, Nat.le_of_ble_eq_true rfl⟩) (As := [.int (iI (w))]) (v := .int (iI (if ¬ (0 ≤ w ∧ w ≤ (F 3) - 1) then 1 else 0))) (hn := rfl) (hst := rfl) (rest := []) (hW := Nat.le_of_ble_eq_true rfl) (hdg := dX4_turn_2) (hf := ⟨Nat.le_of_ble_eq_true rfl, Nat.le_of_ble_eq_true rfl⟩) ?_
  refine jz_bool_eq (tgt := 10) C dX4_turn_5 (by decide) (fun h5 => ?_) (fun h5 => ?_)
  · skip
    refine lv_iload_n hx hb dX4_turn_10 rfl (lv_at hl 2 rfl) ?_
    refine jz_i2l C dX4_turn_11 (by omega) ?_
    refine jz_lconst (z := 0) C rfl dX4_turn_12 ?_
    refine jz_ldc2 (z := 3) C (List.mem_of_getElem? (i := 1) rfl) (by decide +kernel) dX4_turn_13 ?_
    refine jc_S C hl.1 (jpreS hE hP) (c_X4_in v 0 3 (show -9223372036854775808 ≤ v ∧ v < 9223372036854775808 from (by omega)) (show -9223372036854775808 ≤ 0 ∧ 0 < 9223372036854775808 from (by omega)) (show -9223372036854775808 ≤ 3 ∧ 3 < 9223372036854775808 from (by omega))) (va_cwS 3 C.2.2.2.2 gX4_turn_X4_in rfl rfl rfl (by decide +kernel) ⟨Nat.le_of_ble_eq_true rfl, Nat.le_of_ble_eq_true rfl⟩) (As := [.long (lI (v)), .long (lI (0)), .long (lI (3))]) (v := .int (iI (if 0 ≤ v ∧ v ≤ 3 then 1 else 0))) (hn := rfl) (hst := rfl) (rest := []) (hW := Nat.le_of_ble_eq_true rfl) (hdg := dX4_turn_16) (hf := ⟨Nat.le_of_ble_eq_true rfl, Nat.le_of_ble_eq_true rfl⟩) ?_
    refine jz_bool_ne (tgt := 25) C dX4_turn_19 (by decide) (fun h19 => ?_) (fun h19 => ?_)
    · skip
      refine lv_aload_n hx hb dX4_turn_25 rfl (lv_at hl 0 rfl) ?_
      refine fg_M_vaneOf C hin4 hE hP (List.mem_of_getElem? (i := 2) rfl) dX4_turn_26 ?_
      refine lv_iload_n hx hb dX4_turn_29 rfl (lv_at hl 1 rfl) ?_
      refine fl_M_vaneOf C hE hP (v := R 6 (Int.toNat w)) dX4_turn_30 (by omega) rfl ?_
      refine lv_istore_n (lv' := [(3, .int (iI (R 6 (Int.toNat w)))), (0, .ref (ad 0)), (1, .int (iI (w))), (2, .int (iI (v)))]) hx hb dX4_turn_31 rfl hl (by decide) rfl (fun ls hl => ?_)
      refine lv_aload_n hx hb dX4_turn_32 rfl (lv_at hl 1 rfl) ?_
      refine fg_M_vaneOf C hin4 hE hP (List.mem_of_getElem? (i := 2) rfl) dX4_turn_33 ?_
      refine lv_iload_n hx hb dX4_turn_36 rfl (lv_at hl 2 rfl) ?_
      refine lv_iload_n hx hb dX4_turn_37 rfl (lv_at hl 3 rfl) ?_
      refine fs_M_vaneOf C hE hP (jDM hD) hS dX4_turn_38 (by omega) (fun H lc hP hS => ?_)
      refine lv_iload_n hx hb dX4_turn_39 rfl (lv_at hl 0 rfl) ?_
      have hk9 : k_X4_turn F R w v = (R 6 (Int.toNat w), F, (uR R 6 (u1 (R 6) (Int.toNat w) v))) := by rw [k_X4_turn, (if_neg h5), (if_pos h19)]
      exact hret _ (F, (uR R 6 (u1 (R 6) (Int.toNat w) v))) _ _ _ _ dX4_turn_40 ⟨by rw [hk9], by rw [hk9], by rw [hk9]⟩ hP hS
    · skip
      refine jz_bipush C dX4_turn_22 (by decide +kernel) ?_
      have hk9 : k_X4_turn F R w v = (-2, F, R) := by rw [k_X4_turn, (if_neg h5), (if_neg h19)]
      exact hret _ (F, R) _ _ _ _ dX4_turn_24 ⟨by rw [hk9], by rw [hk9], by rw [hk9]⟩ hP hS
  · skip
    refine jz_const C dX4_turn_8 ?_
    have hk9 : k_X4_turn F R w v = (-1, F, R) := by rw [k_X4_turn, (if_pos h5)]
    exact hret _ (F, R) _ _ _ _ dX4_turn_9 ⟨by rw [hk9], by rw [hk9], by rw [hk9]⟩ hP hS
def k_X4_smell (F : Nat → Int) (R : Nat → Nat → Int) (c : Int) : Int := if ¬ (0 ≤ c ∧ c ≤ (F 1) * (F 2) - 1) then (-1) else (ms F R c)
abbrev rm_X4_smell : Room := { frames := 2, cells := 0, slots := 0, locals := 52 }
set_option maxHeartbeats 4000000 in
set_option maxRecDepth 100000 in
theorem c_X4_smell {l : Launch} {D : va_G} {cI cS : ClassId} {ad : Nat → Nat} {F : Nat → Int} {R : Nat → Nat → Int}  (c : Int)  (hS9 : MV F R) (hr_c : -2147483648 ≤ c ∧ c < 2147483648): JS l yX4_smell wsX4_smell rm_X4_smell (jB D cI cS (wM cI ad F R)) [.ref (ad 0), .int (iI (c))] (.int (iI (k_X4_smell F R c))) := by
  refine JS.mkI rfl (by decide +kernel) rfl (Nat.le_of_ble_eq_true rfl) ?_
  intro p e st mi ar bl mth cd Q ls C hB hl hret
  obtain ⟨hE, hP⟩ := hB
  have hx := C.1
  have hb := C.2.1
  have hl : lv_has ls 2 [(0, .ref (ad 0)), (1, .int (iI (c)))] := hl
  have hM := hS9.town
  have hW := hM.works
  have hK := hM.wards
  have hlaw := hM.law
  have hrd := hM.reads
  have hsp := hM.spots
  have hhi := hM.high
  have hwd := hM.wide
  have hP8 := pw8 hW
  have hen := en_bd4 hW hM.vane
  refine lv_aload_n hx hb dX4_smell_0 rfl (lv_at hl 0 rfl) ?_
  refine lv_iload_n hx hb dX4_smell_1 rfl (lv_at hl 1 rfl) ?_
  refine jc_V C hl.1 (jpreV hE hP 4 0 rfl rfl) (c_X4_noSpot c hM.spots (show -2147483648 ≤ c ∧ c < 2147483648 from (by omega))) (cwV 1 C.2.2.2.2 gX4_smell_X4_noSpot rfl rfl rfl (by decide +kernel) ⟨Nat.le_of_ble_eq_true rfl, Nat.le_of_ble_eq_true rfl⟩) (As := [.int (iI (c))]) (v := .int (iI (if ¬ (0 ≤ c ∧ c ≤ (F 1) * (F 2) - 1) then 1 else 0))) (hn := rfl) (hst := rfl) (rest := []) (hW := Nat.le_of_ble_eq_true rfl) (hdg := dX4_smell_2) (hf := ⟨Nat.le_of_ble_eq_true rfl, Nat.le_of_ble_eq_true rfl⟩) ?_
  refine jz_bool_eq (tgt := 12) C dX4_smell_5 (by decide) (fun h5 => ?_) (fun h5 => ?_)
  · skip
    refine lv_aload_n hx hb dX4_smell_12 rfl (lv_at hl 0 rfl) ?_
    refine lv_iload_n hx hb dX4_smell_13 rfl (lv_at hl 1 rfl) ?_
    refine jc_V C hl.1 (jpreV hE hP 4 0 rfl rfl) (c_X4_smellOf c (by first | exact hM | assumption) (show 0 ≤ c ∧ c < 24 from (by omega))) (cwV 1 C.2.2.2.2 gX4_smell_X4_smellOf rfl rfl rfl (by decide +kernel) ⟨Nat.le_of_ble_eq_true rfl, Nat.le_of_ble_eq_true rfl⟩) (As := [.int (iI (c))]) (v := .int (iI (ms F R c))) (hn := rfl) (hst := rfl) (rest := []) (hW := Nat.le_of_ble_eq_true rfl) (hdg := dX4_smell_14) (hf := ⟨Nat.le_of_ble_eq_true rfl, Nat.le_of_ble_eq_true rfl⟩) ?_
    exact jz_ret (show (k_X4_smell F R c : Int) = ms F R c from by rw [k_X4_smell, (if_neg h5)]) (hret _ _ dX4_smell_17)
  · skip
    refine jz_const C dX4_smell_8 ?_
    refine lv_goto (tgt := 17) hx hb dX4_smell_9 (by decide) ?_
    exact jz_ret (show (k_X4_smell F R c : Int) = -1 from by rw [k_X4_smell, (if_pos h5)]) (hret _ _ dX4_smell_17)
def k_X4_minds (F : Nat → Int) (R : Nat → Nat → Int) (k : Int) : Int := if ¬ (0 ≤ k ∧ k ≤ (F 7) - 1) then (-1) else (mm F R (Int.toNat k))
abbrev rm_X4_minds : Room := { frames := 3, cells := 0, slots := 0, locals := 73 }
set_option maxHeartbeats 4000000 in
set_option maxRecDepth 100000 in
theorem c_X4_minds {l : Launch} {D : va_G} {cI cS : ClassId} {ad : Nat → Nat} {F : Nat → Int} {R : Nat → Nat → Int}  (k : Int)  (hS9 : MV F R) (hr_k : -2147483648 ≤ k ∧ k < 2147483648): JS l yX4_minds wsX4_minds rm_X4_minds (jB D cI cS (wM cI ad F R)) [.ref (ad 0), .int (iI (k))] (.int (iI (k_X4_minds F R k))) := by
  refine JS.mkI rfl (by decide +kernel) rfl (Nat.le_of_ble_eq_true rfl) ?_
  intro p e st mi ar bl mth cd Q ls C hB hl hret
  obtain ⟨hE, hP⟩ := hB
  have hx := C.1
  have hb := C.2.1
  have hl : lv_has ls 2 [(0, .ref (ad 0)), (1, .int (iI (k)))] := hl
  have hM := hS9.town
  have hW := hM.works
  have hK := hM.wards
  have hlaw := hM.law
  have hrd := hM.reads
  have hsp := hM.spots
  have hhi := hM.high
  have hwd := hM.wide
  have hP8 := pw8 hW
  have hen := en_bd4 hW hM.vane
  refine lv_aload_n hx hb dX4_minds_0 rfl (lv_at hl 0 rfl) ?_
  refine lv_iload_n hx hb dX4_minds_1 rfl (lv_at hl 1 rfl) ?_
  refine jc_V C hl.1 (jpreV hE hP 4 0 rfl rfl) (c_X4_noWard k hM.wards (show -2147483648 ≤ k ∧ k < 2147483648 from (by omega))) (cwV 1 C.2.2.2.2 gX4_minds_X4_noWard rfl rfl rfl (by decide +kernel) ⟨Nat.le_of_ble_eq_true rfl, Nat.le_of_ble_eq_true rfl⟩) (As := [.int (iI (k))]) (v := .int (iI (if ¬ (0 ≤ k ∧ k ≤ (F 7) - 1) then 1 else 0))) (hn := rfl) (hst := rfl) (rest := []) (hW := Nat.le_of_ble_eq_true rfl) (hdg := dX4_minds_2) (hf := ⟨Nat.le_of_ble_eq_true rfl, Nat.le_of_ble_eq_true rfl⟩) ?_
  refine jz_bool_eq (tgt := 12) C dX4_minds_5 (by decide) (fun h5 => ?_) (fun h5 => ?_)
  · skip
    refine lv_aload_n hx hb dX4_minds_12 rfl (lv_at hl 0 rfl) ?_
    refine lv_iload_n hx hb dX4_minds_13 rfl (lv_at hl 1 rfl) ?_
    refine jc_V C hl.1 (jpreV hE hP 4 0 rfl rfl) (c_X4_mindsNow k (by first | exact hM | assumption) (show 0 ≤ k ∧ k < 6 from (by omega))) (cwV 1 C.2.2.2.2 gX4_minds_X4_mindsNow rfl rfl rfl (by decide +kernel) ⟨Nat.le_of_ble_eq_true rfl, Nat.le_of_ble_eq_true rfl⟩) (As := [.int (iI (k))]) (v := .int (iI (mm F R (Int.toNat k)))) (hn := rfl) (hst := rfl) (rest := []) (hW := Nat.le_of_ble_eq_true rfl) (hdg := dX4_minds_14) (hf := ⟨Nat.le_of_ble_eq_true rfl, Nat.le_of_ble_eq_true rfl⟩) ?_
    exact jz_ret (show (k_X4_minds F R k : Int) = mm F R (Int.toNat k) from by rw [k_X4_minds, (if_neg h5)]) (hret _ _ dX4_minds_17)
  · skip
    refine jz_const C dX4_minds_8 ?_
    refine lv_goto (tgt := 17) hx hb dX4_minds_9 (by decide) ?_
    exact jz_ret (show (k_X4_minds F R k : Int) = -1 from by rw [k_X4_minds, (if_pos h5)]) (hret _ _ dX4_minds_17)
def k_X4_burden (F : Nat → Int) (R : Nat → Nat → Int)  : Int := if (F 1) = 0 then (-3) else (su (mm F R) (Int.toNat (F 7)))
abbrev rm_X4_burden : Room := { frames := 4, cells := 0, slots := 0, locals := 95 }
set_option maxHeartbeats 4000000 in
set_option maxRecDepth 100000 in
theorem c_X4_burden {l : Launch} {D : va_G} {cI cS : ClassId} {ad : Nat → Nat} {F : Nat → Int} {R : Nat → Nat → Int}    (hS9 : MV F R): JS l yX4_burden wsX4_burden rm_X4_burden (jB D cI cS (wM cI ad F R)) [.ref (ad 0)] (.int (iI (k_X4_burden F R))) := by
  refine JS.mkI rfl (by decide +kernel) rfl (Nat.le_of_ble_eq_true rfl) ?_
  intro p e st mi ar bl mth cd Q ls C hB hl hret
  obtain ⟨hE, hP⟩ := hB
  have hx := C.1
  have hb := C.2.1
  have hl : lv_has ls 1 [(0, .ref (ad 0))] := hl
  have hin4 : ∀ w ∈ wsX40, w ∈ wsX4_burden := fun _ h => List.mem_cons_of_mem _ (List.mem_append_right _ h)
  have hM := hS9.town
  have hW := hM.works
  have hK := hM.wards
  have hlaw := hM.law
  have hrd := hM.reads
  have hsp := hM.spots
  have hhi := hM.high
  have hwd := hM.wide
  have hP8 := pw8 hW
  have hen := en_bd4 hW hM.vane
  refine lv_aload_n hx hb dX4_burden_0 rfl (lv_at hl 0 rfl) ?_
  refine fg_M_high C hin4 hE hP (v := F 1) (List.mem_of_getElem? (i := 1) rfl) dX4_burden_1 rfl ?_
  refine jz_if_ne (tgt := 12) C dX4_burden_4 (by decide) (by omega) (fun h4 => ?_) (fun h4 => ?_)
  · skip
    refine lv_aload_n hx hb dX4_burden_12 rfl (lv_at hl 0 rfl) ?_
    refine jc_V C hl.1 (jpreV hE hP 4 0 rfl rfl) (c_X4_burdenNow  (by first | exact hM | assumption)) (cwV 0 C.2.2.2.2 gX4_burden_X4_burdenNow rfl rfl rfl (by decide +kernel) ⟨Nat.le_of_ble_eq_true rfl, Nat.le_of_ble_eq_true rfl⟩) (As := []) (v := .int (iI (su (mm F R) (Int.toNat (F 7))))) (hn := rfl) (hst := rfl) (rest := []) (hW := Nat.le_of_ble_eq_true rfl) (hdg := dX4_burden_13) (hf := ⟨Nat.le_of_ble_eq_true rfl, Nat.le_of_ble_eq_true rfl⟩) ?_
    exact jz_ret (show (k_X4_burden F R : Int) = su (mm F R) (Int.toNat (F 7)) from by rw [k_X4_burden, (if_neg (h4))]) (hret _ _ dX4_burden_16)
  · skip
    refine jz_bipush C dX4_burden_7 (by decide +kernel) ?_
    refine lv_goto (tgt := 16) hx hb dX4_burden_9 (by decide) ?_
    exact jz_ret (show (k_X4_burden F R : Int) = -3 from by rw [k_X4_burden, (if_pos h4)]) (hret _ _ dX4_burden_16)
def k_X4_vote (F : Nat → Int) (R : Nat → Nat → Int) (k : Int) (w : Int) : Int × (Nat → Int) × (Nat → Nat → Int) := if ¬ (0 ≤ k ∧ k ≤ (F 7) - 1) then ((-1, F, R)) else (if ¬ (0 ≤ w ∧ w ≤ (F 3) - 1) then ((-1, F, R)) else ((vm F R (Int.toNat k) w, F, R)))
abbrev rm_X4_vote : Room := { frames := 4, cells := 0, slots := 0, locals := 100 }
set_option maxHeartbeats 4000000 in
set_option maxRecDepth 100000 in
theorem c_X4_vote {l : Launch} {D : va_G} {cI cS : ClassId} {ad : Nat → Nat} {F : Nat → Int} {R : Nat → Nat → Int} {A : Nat → Prop} (hD : va_D A (wM cI ad F R))  (k : Int) (w : Int)  (hS9 : MV F R) (hr_k : -2147483648 ≤ k ∧ k < 2147483648) (hr_w : -2147483648 ≤ w ∧ w < 2147483648): JV l yX4_vote wsX4_vote rm_X4_vote (jB D cI cS (wM cI ad F R)) A [.ref (ad 0), .int (iI (k)), .int (iI (w))] (fun v9 (u9 : (Nat → Int) × (Nat → Nat → Int)) => v9 = some (.int (iI (k_X4_vote F R k w).1)) ∧ u9.1 = (k_X4_vote F R k w).2.1 ∧ u9.2 = (k_X4_vote F R k w).2.2) (fun u9 H => va_P D vwCl (wM cI ad u9.1 u9.2) H) := by
  refine JV.mkI rfl (by decide +kernel) rfl (Nat.le_of_ble_eq_true rfl) ?_
  intro p e st mi ar bl mth cd Q ls C hB hl hret
  obtain ⟨hE, hP⟩ := hB
  have hx := C.1
  have hb := C.2.1
  have hl : lv_has ls 3 [(0, .ref (ad 0)), (1, .int (iI (k))), (2, .int (iI (w)))] := hl
  suffices hgo : ∀ (H : Heap) (lc : List Loc), va_P D vwCl (wM cI ad F R) H → va_S A st.heap H lc → W p l e rm_X4_vote st mi ar bl mth cd H lc 0 0 Q (F0 mi 0 ls []) from hgo _ _ hP va_S.rf
  clear hP
  intro H lc hP hS
  have hM := hS9.town
  have hW := hM.works
  have hK := hM.wards
  have hlaw := hM.law
  have hrd := hM.reads
  have hsp := hM.spots
  have hhi := hM.high
  have hwd := hM.wide
  have hP8 := pw8 hW
  have hen := en_bd4 hW hM.vane
  refine lv_aload_n hx hb dX4_vote_0 rfl (lv_at hl 0 rfl) ?_
  refine lv_iload_n hx hb dX4_vote_1 rfl (lv_at hl 1 rfl) ?_
  refine jc_V C hl.1 (jpreV hE hP 4 0 rfl rfl) (c_X4_noWard k hM.wards (show -2147483648 ≤ k ∧ k < 2147483648 from (by omega))) (cwV 1 C.2.2.2.2 gX4_vote_X4_noWard rfl rfl rfl (by decide +kernel) ⟨Nat.le_of_ble_eq_true rfl, Nat.le_of_ble_eq_true rfl⟩) (As := [.int (iI (k))]) (v := .int (iI (if ¬ (0 ≤ k ∧ k ≤ (F 7) - 1) then 1 else 0))) (hn := rfl) (hst := rfl) (rest := []) (hW := Nat.le_of_ble_eq_true rfl) (hdg := dX4_vote_2) (hf := ⟨Nat.le_of_ble_eq_true rfl, Nat.le_of_ble_eq_true rfl⟩) ?_
  refine jz_bool_ne (tgt := 16) C dX4_vote_5 (by decide) (fun h5 => ?_) (fun h5 => ?_)
  · skip
    refine jz_const C dX4_vote_16 ?_
    refine lv_goto (tgt := 26) hx hb dX4_vote_17 (by decide) ?_
    have hk9 : k_X4_vote F R k w = (-1, F, R) := by rw [k_X4_vote, (if_pos h5)]
    exact hret _ (F, R) _ _ _ _ dX4_vote_26 ⟨by rw [hk9], by rw [hk9], by rw [hk9]⟩ hP hS
  · skip
    refine lv_aload_n hx hb dX4_vote_8 rfl (lv_at hl 0 rfl) ?_
    refine lv_iload_n hx hb dX4_vote_9 rfl (lv_at hl 2 rfl) ?_
    refine jc_V C hl.1 (jpreV hE hP 4 0 rfl rfl) (c_X4_noWork w hM.works (show -2147483648 ≤ w ∧ w < 2147483648 from (by omega))) (cwV 1 C.2.2.2.2 gX4_vote_X4_noWork rfl rfl rfl (by decide +kernel) ⟨Nat.le_of_ble_eq_true rfl, Nat.le_of_ble_eq_true rfl⟩) (As := [.int (iI (w))]) (v := .int (iI (if ¬ (0 ≤ w ∧ w ≤ (F 3) - 1) then 1 else 0))) (hn := rfl) (hst := rfl) (rest := []) (hW := Nat.le_of_ble_eq_true rfl) (hdg := dX4_vote_10) (hf := ⟨Nat.le_of_ble_eq_true rfl, Nat.le_of_ble_eq_true rfl⟩) ?_
    refine jz_bool_eq (tgt := 20) C dX4_vote_13 (by decide) (fun h13 => ?_) (fun h13 => ?_)
    · skip
      refine lv_aload_n hx hb dX4_vote_20 rfl (lv_at hl 0 rfl) ?_
      refine lv_iload_n hx hb dX4_vote_21 rfl (lv_at hl 1 rfl) ?_
      refine lv_iload_n hx hb dX4_vote_22 rfl (lv_at hl 2 rfl) ?_
      refine jw_V C hl.1 (jpreV hE hP 4 0 rfl rfl) (c_X4_voteOf (A := A) (jDM hD) k w (by first | exact hM | assumption) (show 0 ≤ k ∧ k < 6 from (by omega)) (show 0 ≤ w ∧ w < (F 3) from (by omega))) (cwV 2 C.2.2.2.2 gX4_vote_X4_voteOf rfl rfl rfl (by decide +kernel) ⟨Nat.le_of_ble_eq_true rfl, Nat.le_of_ble_eq_true rfl⟩) (As := [.int (iI (k)), .int (iI (w))]) (hn := rfl) (hst := rfl) (rest := []) (hW := Nat.le_of_ble_eq_true rfl) (hdg := dX4_vote_23) (hf := ⟨Nat.le_of_ble_eq_true rfl, Nat.le_of_ble_eq_true rfl⟩) hS (fun v9 uq23 H lc hq9 hP hS => ?_)
      obtain rfl : v9 = some (.int (iI (vm F R (Int.toNat k) w))) := hq9
      have hP : va_P D vwCl (wM cI ad F R) H := hP
      have hk9 : k_X4_vote F R k w = (vm F R (Int.toNat k) w, F, R) := by rw [k_X4_vote, (if_neg h5), (if_neg h13)]
      exact hret _ (F, R) _ _ _ _ dX4_vote_26 ⟨by rw [hk9], by rw [hk9], by rw [hk9]⟩ hP hS
    · skip
      refine jz_const C dX4_vote_16 ?_
      refine lv_goto (tgt := 26) hx hb dX4_vote_17 (by decide) ?_
      have hk9 : k_X4_vote F R k w = (-1, F, R) := by rw [k_X4_vote, (if_neg h5), (if_pos h13)]
      exact hret _ (F, R) _ _ _ _ dX4_vote_26 ⟨by rw [hk9], by rw [hk9], by rw [hk9]⟩ hP hS
def k_X4_ballot (F : Nat → Int) (R : Nat → Nat → Int) (w : Int) : Int × (Nat → Int) × (Nat → Nat → Int) := if ¬ (0 ≤ w ∧ w ≤ (F 3) - 1) then ((-1, F, R)) else ((wm F R w 0 0, F, R))
abbrev rm_X4_ballot : Room := { frames := 5, cells := 0, slots := 0, locals := 129 }
set_option maxHeartbeats 4000000 in
set_option maxRecDepth 100000 in
theorem c_X4_ballot {l : Launch} {D : va_G} {cI cS : ClassId} {ad : Nat → Nat} {F : Nat → Int} {R : Nat → Nat → Int} {A : Nat → Prop} (hD : va_D A (wM cI ad F R))  (w : Int)  (hS9 : MV F R) (hr_w : -2147483648 ≤ w ∧ w < 2147483648): JV l yX4_ballot wsX4_ballot rm_X4_ballot (jB D cI cS (wM cI ad F R)) A [.ref (ad 0), .int (iI (w))] (fun v9 (u9 : (Nat → Int) × (Nat → Nat → Int)) => v9 = some (.int (iI (k_X4_ballot F R w).1)) ∧ u9.1 = (k_X4_ballot F R w).2.1 ∧ u9.2 = (k_X4_ballot F R w).2.2) (fun u9 H => va_P D vwCl (wM cI ad u9.1 u9.2) H) := by
  refine JV.mkI rfl (by decide +kernel) rfl (Nat.le_of_ble_eq_true rfl) ?_
  intro p e st mi ar bl mth cd Q ls C hB hl hret
  obtain ⟨hE, hP⟩ := hB
  have hx := C.1
  have hb := C.2.1
  have hl : lv_has ls 2 [(0, .ref (ad 0)), (1, .int (iI (w)))] := hl
  suffices hgo : ∀ (H : Heap) (lc : List Loc), va_P D vwCl (wM cI ad F R) H → va_S A st.heap H lc → W p l e rm_X4_ballot st mi ar bl mth cd H lc 0 0 Q (F0 mi 0 ls []) from hgo _ _ hP va_S.rf
  clear hP
  intro H lc hP hS
  have hM := hS9.town
  have hW := hM.works
  have hK := hM.wards
  have hlaw := hM.law
  have hrd := hM.reads
  have hsp := hM.spots
  have hhi := hM.high
  have hwd := hM.wide
  have hP8 := pw8 hW
  have hen := en_bd4 hW hM.vane
  refine lv_aload_n hx hb dX4_ballot_0 rfl (lv_at hl 0 rfl) ?_
  refine lv_iload_n hx hb dX4_ballot_1 rfl (lv_at hl 1 rfl) ?_
  refine jc_V C hl.1 (jpreV hE hP 4 0 rfl rfl) (c_X4_noWork w hM.works (show -2147483648 ≤ w ∧ w < 2147483648 from (by omega))) (cwV 1 C.2.2.2.2 gX4_ballot_X4_noWork rfl rfl rfl (by decide +kernel) ⟨Nat.le_of_ble_eq_true rfl, Nat.le_of_ble_eq_true rfl⟩) (As := [.int (iI (w))]) (v := .int (iI (if ¬ (0 ≤ w ∧ w ≤ (F 3) - 1) then 1 else 0))) (hn := rfl) (hst := rfl) (rest := []) (hW := Nat.le_of_ble_eq_true rfl) (hdg := dX4_ballot_2) (hf := ⟨Nat.le_of_ble_eq_true rfl, Nat.le_of_ble_eq_true rfl⟩) ?_
  refine jz_bool_eq (tgt := 12) C dX4_ballot_5 (by decide) (fun h5 => ?_) (fun h5 => ?_)
  · skip
    refine lv_aload_n hx hb dX4_ballot_12 rfl (lv_at hl 0 rfl) ?_
    refine lv_iload_n hx hb dX4_ballot_13 rfl (lv_at hl 1 rfl) ?_
    refine jz_const C dX4_ballot_14 ?_
    refine jz_const C dX4_ballot_15 ?_
    refine jw_V C hl.1 (jpreV hE hP 4 0 rfl rfl) (c_X4_winsBy (A := A) (jDM hD) w 0 0 (by first | exact hM | assumption) (show 0 ≤ w ∧ w < (F 3) from (by omega)) (show 0 ≤ 0 ∧ 0 < 64 from (by omega)) (show 0 ≤ 0 ∧ 0 < 4 from (by omega))) (cwV 3 C.2.2.2.2 gX4_ballot_X4_winsBy rfl rfl rfl (by decide +kernel) ⟨Nat.le_of_ble_eq_true rfl, Nat.le_of_ble_eq_true rfl⟩) (As := [.int (iI (w)), .int (iI (0)), .int (iI (0))]) (hn := rfl) (hst := rfl) (rest := []) (hW := Nat.le_of_ble_eq_true rfl) (hdg := dX4_ballot_16) (hf := ⟨Nat.le_of_ble_eq_true rfl, Nat.le_of_ble_eq_true rfl⟩) hS (fun v9 uq16 H lc hq9 hP hS => ?_)
    obtain rfl : v9 = some (.int (iI (wm F R w 0 0))) := hq9
    have hP : va_P D vwCl (wM cI ad F R) H := hP
    have hk9 : k_X4_ballot F R w = (wm F R w 0 0, F, R) := by rw [k_X4_ballot, (if_neg h5)]
    exact hret _ (F, R) _ _ _ _ dX4_ballot_19 ⟨by rw [hk9], by rw [hk9], by rw [hk9]⟩ hP hS
  · skip
    refine jz_const C dX4_ballot_8 ?_
    refine lv_goto (tgt := 19) hx hb dX4_ballot_9 (by decide) ?_
    have hk9 : k_X4_ballot F R w = (-1, F, R) := by rw [k_X4_ballot, (if_pos h5)]
    exact hret _ (F, R) _ _ _ _ dX4_ballot_19 ⟨by rw [hk9], by rw [hk9], by rw [hk9]⟩ hP hS
def k_X4_year (F : Nat → Int) (R : Nat → Nat → Int)  : Int × (Nat → Int) × (Nat → Nat → Int) := if (F 1) = 0 then ((-3, F, R)) else ((yc F R (Int.toNat (F 3)), F, (uR R 6 (ym F R (Int.toNat (F 3))))))
abbrev rm_X4_year : Room := { frames := 6, cells := 0, slots := 0, locals := 152 }
set_option maxHeartbeats 4000000 in
set_option maxRecDepth 100000 in
theorem c_X4_year {l : Launch} {D : va_G} {cI cS : ClassId} {ad : Nat → Nat} {F : Nat → Int} {R : Nat → Nat → Int} {A : Nat → Prop} (hD : va_D A (wM cI ad F R))    (hS9 : MV F R): JV l yX4_year wsX4_year rm_X4_year (jB D cI cS (wM cI ad F R)) A [.ref (ad 0)] (fun v9 (u9 : (Nat → Int) × (Nat → Nat → Int)) => v9 = some (.int (iI (k_X4_year F R).1)) ∧ u9.1 = (k_X4_year F R).2.1 ∧ u9.2 = (k_X4_year F R).2.2) (fun u9 H => va_P D vwCl (wM cI ad u9.1 u9.2) H) := by
  refine JV.mkI rfl (by decide +kernel) rfl (Nat.le_of_ble_eq_true rfl) ?_
  intro p e st mi ar bl mth cd Q ls C hB hl hret
  obtain ⟨hE, hP⟩ := hB
  have hx := C.1
  have hb := C.2.1
  have hl : lv_has ls 1 [(0, .ref (ad 0))] := hl
  have hin4 : ∀ w ∈ wsX40, w ∈ wsX4_year := fun _ h => List.mem_cons_of_mem _ (List.mem_append_right _ h)
  suffices hgo : ∀ (H : Heap) (lc : List Loc), va_P D vwCl (wM cI ad F R) H → va_S A st.heap H lc → W p l e rm_X4_year st mi ar bl mth cd H lc 0 0 Q (F0 mi 0 ls []) from hgo _ _ hP va_S.rf
  clear hP
  intro H lc hP hS
  have hM := hS9.town
  have hW := hM.works
  have hK := hM.wards
  have hlaw := hM.law
  have hrd := hM.reads
  have hsp := hM.spots
  have hhi := hM.high
  have hwd := hM.wide
  have hP8 := pw8 hW
  have hen := en_bd4 hW hM.vane
  refine lv_aload_n hx hb dX4_year_0 rfl (lv_at hl 0 rfl) ?_
  refine fg_M_high C hin4 hE hP (v := F 1) (List.mem_of_getElem? (i := 1) rfl) dX4_year_1 rfl ?_
  refine jz_if_ne (tgt := 12) C dX4_year_4 (by decide) (by omega) (fun h4 => ?_) (fun h4 => ?_)
  · skip
    refine lv_aload_n hx hb dX4_year_12 rfl (lv_at hl 0 rfl) ?_
    refine jw_V C hl.1 (jpreV hE hP 4 0 rfl rfl) (c_X4_goYear (A := A) (jDM hD)  (by first | exact hM | assumption)) (cwV 0 C.2.2.2.2 gX4_year_X4_goYear rfl rfl rfl (by decide +kernel) ⟨Nat.le_of_ble_eq_true rfl, Nat.le_of_ble_eq_true rfl⟩) (As := []) (hn := rfl) (hst := rfl) (rest := []) (hW := Nat.le_of_ble_eq_true rfl) (hdg := dX4_year_13) (hf := ⟨Nat.le_of_ble_eq_true rfl, Nat.le_of_ble_eq_true rfl⟩) hS (fun v9 uq13 H lc hq9 hP hS => ?_)
    obtain rfl : v9 = some (.int (iI (yc F R (Int.toNat (F 3))))) := hq9
    have hP : va_P D vwCl (wM cI ad F (uR R 6 (ym F R (Int.toNat (F 3))))) H := hP
    have hk9 : k_X4_year F R = (yc F R (Int.toNat (F 3)), F, (uR R 6 (ym F R (Int.toNat (F 3))))) := by rw [k_X4_year, (if_neg (h4))]
    exact hret _ (F, (uR R 6 (ym F R (Int.toNat (F 3))))) _ _ _ _ dX4_year_16 ⟨by rw [hk9], by rw [hk9], by rw [hk9]⟩ hP hS
  · skip
    refine jz_bipush C dX4_year_7 (by decide +kernel) ?_
    refine lv_goto (tgt := 16) hx hb dX4_year_9 (by decide) ?_
    have hk9 : k_X4_year F R = (-3, F, R) := by rw [k_X4_year, (if_pos h4)]
    exact hret _ (F, R) _ _ _ _ dX4_year_16 ⟨by rw [hk9], by rw [hk9], by rw [hk9]⟩ hP hS
def k_X4_best (F : Nat → Int) (R : Nat → Nat → Int) (w : Int) : Int × (Nat → Int) × (Nat → Nat → Int) := if w < (-1) then ((-1, F, R)) else (if (F 1) = 0 then ((-3, F, R)) else (if w < 0 then (((am (fun y9 : Nat => su (mm F (wt F R (y9 : Int))) (Int.toNat (F 7))) (2 ^ (Int.toNat (2 * (F 3))))).2, (u1 F 23 ((am (fun y9 : Nat => su (mm F (wt F R (y9 : Int))) (Int.toNat (F 7))) (2 ^ (Int.toNat (2 * (F 3))))).2)), R)) else (if ¬ (0 ≤ w ∧ w ≤ (F 3) - 1) then ((-9, (u1 F 23 ((am (fun y9 : Nat => su (mm F (wt F R (y9 : Int))) (Int.toNat (F 7))) (2 ^ (Int.toNat (2 * (F 3))))).2)), R)) else ((vz (F 3) ((am (fun y9 : Nat => su (mm F (wt F R (y9 : Int))) (Int.toNat (F 7))) (2 ^ (Int.toNat (2 * (F 3))))).1) w, (u1 F 23 ((am (fun y9 : Nat => su (mm F (wt F R (y9 : Int))) (Int.toNat (F 7))) (2 ^ (Int.toNat (2 * (F 3))))).2)), R)))))
abbrev rm_X4_best : Room := { frames := 5, cells := 0, slots := 0, locals := 120 }
set_option maxHeartbeats 4000000 in
set_option maxRecDepth 100000 in
theorem c_X4_best {l : Launch} {D : va_G} {cI cS : ClassId} {ad : Nat → Nat} {F : Nat → Int} {R : Nat → Nat → Int} {A : Nat → Prop} (hD : va_D A (wM cI ad F R))  (w : Int)  (hS9 : MV F R) (hr_w : -2147483648 ≤ w ∧ w < 2147483648): JV l yX4_best wsX4_best rm_X4_best (jB D cI cS (wM cI ad F R)) A [.ref (ad 0), .int (iI (w))] (fun v9 (u9 : (Nat → Int) × (Nat → Nat → Int)) => v9 = some (.int (iI (k_X4_best F R w).1)) ∧ u9.1 = (k_X4_best F R w).2.1 ∧ u9.2 = (k_X4_best F R w).2.2) (fun u9 H => va_P D vwCl (wM cI ad u9.1 u9.2) H) := by
  refine JV.mkI rfl (by decide +kernel) rfl (Nat.le_of_ble_eq_true rfl) ?_
  intro p e st mi ar bl mth cd Q ls C hB hl hret
  obtain ⟨hE, hP⟩ := hB
  have hx := C.1
  have hb := C.2.1
  have hl : lv_has ls 3 [(0, .ref (ad 0)), (1, .int (iI (w)))] := hl
  have hin4 : ∀ w ∈ wsX40, w ∈ wsX4_best := fun _ h => List.mem_cons_of_mem _ (List.mem_append_right _ h)
  suffices hgo : ∀ (H : Heap) (lc : List Loc), va_P D vwCl (wM cI ad F R) H → va_S A st.heap H lc → W p l e rm_X4_best st mi ar bl mth cd H lc 0 0 Q (F0 mi 0 ls []) from hgo _ _ hP va_S.rf
  clear hP
  intro H lc hP hS
  have hM := hS9.town
  have hW := hM.works
  have hK := hM.wards
  have hlaw := hM.law
  have hrd := hM.reads
  have hsp := hM.spots
  have hhi := hM.high
  have hwd := hM.wide
  have hP8 := pw8 hW
  have hen := en_bd4 hW hM.vane
  refine lv_iload_n hx hb dX4_best_0 rfl (lv_at hl 1 rfl) ?_
  refine jz_const C dX4_best_1 ?_
  refine jz_icmp_ge (tgt := 7) C dX4_best_2 (by decide) (by omega) (fun h2 => ?_) (fun h2 => ?_)
  · skip
    refine lv_aload_n hx hb dX4_best_7 rfl (lv_at hl 0 rfl) ?_
    refine fg_M_high C hin4 hE hP (v := F 1) (List.mem_of_getElem? (i := 1) rfl) dX4_best_8 rfl ?_
    refine jz_if_ne (tgt := 17) C dX4_best_11 (by decide) (by omega) (fun h11 => ?_) (fun h11 => ?_)
    · skip
      refine lv_aload_n hx hb dX4_best_17 rfl (lv_at hl 0 rfl) ?_
      refine jz_const C dX4_best_18 ?_
      refine jw_V C hl.1 (jpreV hE hP 4 0 rfl rfl) (c_X4_leastRow_b (A := A) (jDM hD)  (by first | exact hM | assumption)) (cwV 1 C.2.2.2.2 gX4_best_X4_leastRow rfl rfl rfl (by decide +kernel) ⟨Nat.le_of_ble_eq_true rfl, Nat.le_of_ble_eq_true rfl⟩) (As := [.int (iI (1))]) (hn := rfl) (hst := rfl) (rest := []) (hW := Nat.le_of_ble_eq_true rfl) (hdg := dX4_best_19) (hf := ⟨Nat.le_of_ble_eq_true rfl, Nat.le_of_ble_eq_true rfl⟩) hS (fun v9 uq19 H lc hq9 hP hS => ?_)
      obtain rfl : v9 = some (.int (iI ((am (fun y9 : Nat => su (mm F (wt F R (y9 : Int))) (Int.toNat (F 7))) (2 ^ (Int.toNat (2 * (F 3))))).1))) := hq9
      have hP : va_P D vwCl (wM cI ad (u1 F 23 ((am (fun y9 : Nat => su (mm F (wt F R (y9 : Int))) (Int.toNat (F 7))) (2 ^ (Int.toNat (2 * (F 3))))).2)) R) H := hP
      have hpw := pwN (Int.toNat (2 * F 3))
      have ham := am_bd (g := (fun y9 : Nat => su (mm F (wt F R (y9 : Int))) (Int.toNat (F 7)))) (n := (2 ^ (Int.toNat (2 * F 3)))) (fun x _ => by
      have h5 := su_bd (f := mm F (wt F R (x : Int))) (n := Int.toNat (F 7)) (b := 720) (fun y hy => mm_bd hM.wt (by omega))
      exact ⟨h5.1, by first | omega | (simp only; omega)⟩)
      have hchoice : 0 ≤ (am (fun y9 : Nat => su (mm F (wt F R (y9 : Int))) (Int.toNat (F 7))) (2 ^ (Int.toNat (2 * F 3)))).1 ∧ (am (fun y9 : Nat => su (mm F (wt F R (y9 : Int))) (Int.toNat (F 7))) (2 ^ (Int.toNat (2 * F 3)))).1 < 256 := ⟨ham.1, by have h5 := ham.2.1; split at h5 <;> omega⟩
      refine lv_istore_n (lv' := [(2, .int (iI ((am (fun y9 : Nat => su (mm F (wt F R (y9 : Int))) (Int.toNat (F 7))) (2 ^ (Int.toNat (2 * (F 3))))).1))), (0, .ref (ad 0)), (1, .int (iI (w)))]) hx hb dX4_best_22 rfl hl (by decide) rfl (fun ls hl => ?_)
      refine lv_iload_n hx hb dX4_best_23 rfl (lv_at hl 2 rfl) ?_
      refine jz_if_ge (tgt := 34) C dX4_best_24 (by decide) (by omega) (fun h24 => ?_) (fun h24 => ?_)
      · skip
        refine lv_aload_n hx hb dX4_best_34 rfl (lv_at hl 1 rfl) ?_
        refine lv_iload_n hx hb dX4_best_35 rfl (lv_at hl 2 rfl) ?_
        refine jc_V C hl.1 (jpreV hE hP 4 0 rfl rfl) (c_X4_noWork w hM.works (show -2147483648 ≤ w ∧ w < 2147483648 from (by omega))) (cwV 1 C.2.2.2.2 gX4_best_X4_noWork rfl rfl rfl (by decide +kernel) ⟨Nat.le_of_ble_eq_true rfl, Nat.le_of_ble_eq_true rfl⟩) (As := [.int (iI (w))]) (v := .int (iI (if ¬ (0 ≤ w ∧ w ≤ (F 3) - 1) then 1 else 0))) (hn := rfl) (hst := rfl) (rest := []) (hW := Nat.le_of_ble_eq_true rfl) (hdg := dX4_best_36) (hf := ⟨Nat.le_of_ble_eq_true rfl, Nat.le_of_ble_eq_true rfl⟩) ?_
        refine jz_bool_eq (tgt := 47) C dX4_best_39 (by decide) (fun h39 => ?_) (fun h39 => ?_)
        · skip
          refine lv_aload_n hx hb dX4_best_47 rfl (lv_at hl 1 rfl) ?_
          refine lv_iload_n hx hb dX4_best_48 rfl (lv_at hl 0 rfl) ?_
          refine lv_iload_n hx hb dX4_best_49 rfl (lv_at hl 2 rfl) ?_
          refine jc_V C hl.1 (jpreV hE hP 4 0 rfl rfl) (c_X4_vaneIn ((am (fun y9 : Nat => su (mm F (wt F R (y9 : Int))) (Int.toNat (F 7))) (2 ^ (Int.toNat (2 * (F 3))))).1) w hM.works (show 0 ≤ ((am (fun y9 : Nat => su (mm F (wt F R (y9 : Int))) (Int.toNat (F 7))) (2 ^ (Int.toNat (2 * (F 3))))).1) ∧ ((am (fun y9 : Nat => su (mm F (wt F R (y9 : Int))) (Int.toNat (F 7))) (2 ^ (Int.toNat (2 * (F 3))))).1) < 256 from (by omega)) (show 0 ≤ w ∧ w < (F 3) from (by omega))) (cwV 2 C.2.2.2.2 gX4_best_X4_vaneIn rfl rfl rfl (by decide +kernel) ⟨Nat.le_of_ble_eq_true rfl, Nat.le_of_ble_eq_true rfl⟩) (As := [.int (iI ((am (fun y9 : Nat => su (mm F (wt F R (y9 : Int))) (Int.toNat (F 7))) (2 ^ (Int.toNat (2 * (F 3))))).1)), .int (iI (w))]) (v := .int (iI (vz (F 3) ((am (fun y9 : Nat => su (mm F (wt F R (y9 : Int))) (Int.toNat (F 7))) (2 ^ (Int.toNat (2 * (F 3))))).1) w))) (hn := rfl) (hst := rfl) (rest := []) (hW := Nat.le_of_ble_eq_true rfl) (hdg := dX4_best_50) (hf := ⟨Nat.le_of_ble_eq_true rfl, Nat.le_of_ble_eq_true rfl⟩) ?_
          have hk9 : k_X4_best F R w = (vz (F 3) ((am (fun y9 : Nat => su (mm F (wt F R (y9 : Int))) (Int.toNat (F 7))) (2 ^ (Int.toNat (2 * (F 3))))).1) w, (u1 F 23 ((am (fun y9 : Nat => su (mm F (wt F R (y9 : Int))) (Int.toNat (F 7))) (2 ^ (Int.toNat (2 * (F 3))))).2)), R) := by rw [k_X4_best, (if_neg (Int.not_lt.mpr h2)), (if_neg (h11)), (if_neg (Int.not_lt.mpr h24)), (if_neg h39)]
          exact hret _ ((u1 F 23 ((am (fun y9 : Nat => su (mm F (wt F R (y9 : Int))) (Int.toNat (F 7))) (2 ^ (Int.toNat (2 * (F 3))))).2)), R) _ _ _ _ dX4_best_53 ⟨by rw [hk9], by rw [hk9], by rw [hk9]⟩ hP hS
        · skip
          refine jz_bipush C dX4_best_42 (by decide +kernel) ?_
          refine lv_goto (tgt := 53) hx hb dX4_best_44 (by decide) ?_
          have hk9 : k_X4_best F R w = (-9, (u1 F 23 ((am (fun y9 : Nat => su (mm F (wt F R (y9 : Int))) (Int.toNat (F 7))) (2 ^ (Int.toNat (2 * (F 3))))).2)), R) := by rw [k_X4_best, (if_neg (Int.not_lt.mpr h2)), (if_neg (h11)), (if_neg (Int.not_lt.mpr h24)), (if_pos h39)]
          exact hret _ ((u1 F 23 ((am (fun y9 : Nat => su (mm F (wt F R (y9 : Int))) (Int.toNat (F 7))) (2 ^ (Int.toNat (2 * (F 3))))).2)), R) _ _ _ _ dX4_best_53 ⟨by rw [hk9], by rw [hk9], by rw [hk9]⟩ hP hS
      · skip
        refine lv_aload_n hx hb dX4_best_27 rfl (lv_at hl 1 rfl) ?_
        refine fg_M_leastIs C hin4 hE hP (v := (am (fun y9 : Nat => su (mm F (wt F R (y9 : Int))) (Int.toNat (F 7))) (2 ^ (Int.toNat (2 * (F 3))))).2) (List.mem_of_getElem? (i := 2) rfl) dX4_best_28 rfl ?_
        refine lv_goto (tgt := 53) hx hb dX4_best_31 (by decide) ?_
        have hk9 : k_X4_best F R w = ((am (fun y9 : Nat => su (mm F (wt F R (y9 : Int))) (Int.toNat (F 7))) (2 ^ (Int.toNat (2 * (F 3))))).2, (u1 F 23 ((am (fun y9 : Nat => su (mm F (wt F R (y9 : Int))) (Int.toNat (F 7))) (2 ^ (Int.toNat (2 * (F 3))))).2)), R) := by rw [k_X4_best, (if_neg (Int.not_lt.mpr h2)), (if_neg (h11)), (if_pos h24)]
        exact hret _ ((u1 F 23 ((am (fun y9 : Nat => su (mm F (wt F R (y9 : Int))) (Int.toNat (F 7))) (2 ^ (Int.toNat (2 * (F 3))))).2)), R) _ _ _ _ dX4_best_53 ⟨by rw [hk9], by rw [hk9], by rw [hk9]⟩ hP hS
    · skip
      refine jz_bipush C dX4_best_14 (by decide +kernel) ?_
      have hk9 : k_X4_best F R w = (-3, F, R) := by rw [k_X4_best, (if_neg (Int.not_lt.mpr h2)), (if_pos h11)]
      exact hret _ (F, R) _ _ _ _ dX4_best_16 ⟨by rw [hk9], by rw [hk9], by rw [hk9]⟩ hP hS
  · skip
    refine jz_const C dX4_best_5 ?_
    have hk9 : k_X4_best F R w = (-1, F, R) := by rw [k_X4_best, (if_pos h2)]
    exact hret _ (F, R) _ _ _ _ dX4_best_6 ⟨by rw [hk9], by rw [hk9], by rw [hk9]⟩ hP hS
def k_X4_calm (F : Nat → Int) (R : Nat → Nat → Int) (w : Int) : Int × (Nat → Int) × (Nat → Nat → Int) := if w < (-1) then ((-1, F, R)) else (if (F 1) = 0 then ((-3, F, R)) else (if w < 0 then (((am (fun y9 : Nat => mx (mm F (wt F R (y9 : Int))) (Int.toNat (F 7))) (2 ^ (Int.toNat (2 * (F 3))))).2, (u1 F 23 ((am (fun y9 : Nat => mx (mm F (wt F R (y9 : Int))) (Int.toNat (F 7))) (2 ^ (Int.toNat (2 * (F 3))))).2)), R)) else (if ¬ (0 ≤ w ∧ w ≤ (F 3) - 1) then ((-9, (u1 F 23 ((am (fun y9 : Nat => mx (mm F (wt F R (y9 : Int))) (Int.toNat (F 7))) (2 ^ (Int.toNat (2 * (F 3))))).2)), R)) else ((vz (F 3) ((am (fun y9 : Nat => mx (mm F (wt F R (y9 : Int))) (Int.toNat (F 7))) (2 ^ (Int.toNat (2 * (F 3))))).1) w, (u1 F 23 ((am (fun y9 : Nat => mx (mm F (wt F R (y9 : Int))) (Int.toNat (F 7))) (2 ^ (Int.toNat (2 * (F 3))))).2)), R)))))
abbrev rm_X4_calm : Room := { frames := 5, cells := 0, slots := 0, locals := 120 }
set_option maxHeartbeats 4000000 in
set_option maxRecDepth 100000 in
theorem c_X4_calm {l : Launch} {D : va_G} {cI cS : ClassId} {ad : Nat → Nat} {F : Nat → Int} {R : Nat → Nat → Int} {A : Nat → Prop} (hD : va_D A (wM cI ad F R))  (w : Int)  (hS9 : MV F R) (hr_w : -2147483648 ≤ w ∧ w < 2147483648): JV l yX4_calm wsX4_calm rm_X4_calm (jB D cI cS (wM cI ad F R)) A [.ref (ad 0), .int (iI (w))] (fun v9 (u9 : (Nat → Int) × (Nat → Nat → Int)) => v9 = some (.int (iI (k_X4_calm F R w).1)) ∧ u9.1 = (k_X4_calm F R w).2.1 ∧ u9.2 = (k_X4_calm F R w).2.2) (fun u9 H => va_P D vwCl (wM cI ad u9.1 u9.2) H) := by
  refine JV.mkI rfl (by decide +kernel) rfl (Nat.le_of_ble_eq_true rfl) ?_
  intro p e st mi ar bl mth cd Q ls C hB hl hret
  obtain ⟨hE, hP⟩ := hB
  have hx := C.1
  have hb := C.2.1
  have hl : lv_has ls 3 [(0, .ref (ad 0)), (1, .int (iI (w)))] := hl
  have hin4 : ∀ w ∈ wsX40, w ∈ wsX4_calm := fun _ h => List.mem_cons_of_mem _ (List.mem_append_right _ h)
  suffices hgo : ∀ (H : Heap) (lc : List Loc), va_P D vwCl (wM cI ad F R) H → va_S A st.heap H lc → W p l e rm_X4_calm st mi ar bl mth cd H lc 0 0 Q (F0 mi 0 ls []) from hgo _ _ hP va_S.rf
  clear hP
  intro H lc hP hS
  have hM := hS9.town
  have hW := hM.works
  have hK := hM.wards
  have hlaw := hM.law
  have hrd := hM.reads
  have hsp := hM.spots
  have hhi := hM.high
  have hwd := hM.wide
  have hP8 := pw8 hW
  have hen := en_bd4 hW hM.vane
  refine lv_iload_n hx hb dX4_calm_0 rfl (lv_at hl 1 rfl) ?_
  refine jz_const C dX4_calm_1 ?_
  refine jz_icmp_ge (tgt := 7) C dX4_calm_2 (by decide) (by omega) (fun h2 => ?_) (fun h2 => ?_)
  · skip
    refine lv_aload_n hx hb dX4_calm_7 rfl (lv_at hl 0 rfl) ?_
    refine fg_M_high C hin4 hE hP (v := F 1) (List.mem_of_getElem? (i := 1) rfl) dX4_calm_8 rfl ?_
    refine jz_if_ne (tgt := 17) C dX4_calm_11 (by decide) (by omega) (fun h11 => ?_) (fun h11 => ?_)
    · skip
      refine lv_aload_n hx hb dX4_calm_17 rfl (lv_at hl 0 rfl) ?_
      refine jz_const C dX4_calm_18 ?_
      refine jw_V C hl.1 (jpreV hE hP 4 0 rfl rfl) (c_X4_leastRow_c (A := A) (jDM hD)  (by first | exact hM | assumption)) (cwV 1 C.2.2.2.2 gX4_calm_X4_leastRow rfl rfl rfl (by decide +kernel) ⟨Nat.le_of_ble_eq_true rfl, Nat.le_of_ble_eq_true rfl⟩) (As := [.int (iI (0))]) (hn := rfl) (hst := rfl) (rest := []) (hW := Nat.le_of_ble_eq_true rfl) (hdg := dX4_calm_19) (hf := ⟨Nat.le_of_ble_eq_true rfl, Nat.le_of_ble_eq_true rfl⟩) hS (fun v9 uq19 H lc hq9 hP hS => ?_)
      obtain rfl : v9 = some (.int (iI ((am (fun y9 : Nat => mx (mm F (wt F R (y9 : Int))) (Int.toNat (F 7))) (2 ^ (Int.toNat (2 * (F 3))))).1))) := hq9
      have hP : va_P D vwCl (wM cI ad (u1 F 23 ((am (fun y9 : Nat => mx (mm F (wt F R (y9 : Int))) (Int.toNat (F 7))) (2 ^ (Int.toNat (2 * (F 3))))).2)) R) H := hP
      have hpw := pwN (Int.toNat (2 * F 3))
      have ham := am_bd (g := (fun y9 : Nat => mx (mm F (wt F R (y9 : Int))) (Int.toNat (F 7)))) (n := (2 ^ (Int.toNat (2 * F 3)))) (fun x _ => by
      have h5 := mx_bd (f := mm F (wt F R (x : Int))) (n := Int.toNat (F 7)) (b := 720) (by omega) (fun y hy => mm_bd hM.wt (by omega))
      exact ⟨h5.1, by first | omega | (simp only; omega)⟩)
      have hchoice : 0 ≤ (am (fun y9 : Nat => mx (mm F (wt F R (y9 : Int))) (Int.toNat (F 7))) (2 ^ (Int.toNat (2 * F 3)))).1 ∧ (am (fun y9 : Nat => mx (mm F (wt F R (y9 : Int))) (Int.toNat (F 7))) (2 ^ (Int.toNat (2 * F 3)))).1 < 256 := ⟨ham.1, by have h5 := ham.2.1; split at h5 <;> omega⟩
      refine lv_istore_n (lv' := [(2, .int (iI ((am (fun y9 : Nat => mx (mm F (wt F R (y9 : Int))) (Int.toNat (F 7))) (2 ^ (Int.toNat (2 * (F 3))))).1))), (0, .ref (ad 0)), (1, .int (iI (w)))]) hx hb dX4_calm_22 rfl hl (by decide) rfl (fun ls hl => ?_)
      refine lv_iload_n hx hb dX4_calm_23 rfl (lv_at hl 2 rfl) ?_
      refine jz_if_ge (tgt := 34) C dX4_calm_24 (by decide) (by omega) (fun h24 => ?_) (fun h24 => ?_)
      · skip
        refine lv_aload_n hx hb dX4_calm_34 rfl (lv_at hl 1 rfl) ?_
        refine lv_iload_n hx hb dX4_calm_35 rfl (lv_at hl 2 rfl) ?_
        refine jc_V C hl.1 (jpreV hE hP 4 0 rfl rfl) (c_X4_noWork w hM.works (show -2147483648 ≤ w ∧ w < 2147483648 from (by omega))) (cwV 1 C.2.2.2.2 gX4_calm_X4_noWork rfl rfl rfl (by decide +kernel) ⟨Nat.le_of_ble_eq_true rfl, Nat.le_of_ble_eq_true rfl⟩) (As := [.int (iI (w))]) (v := .int (iI (if ¬ (0 ≤ w ∧ w ≤ (F 3) - 1) then 1 else 0))) (hn := rfl) (hst := rfl) (rest := []) (hW := Nat.le_of_ble_eq_true rfl) (hdg := dX4_calm_36) (hf := ⟨Nat.le_of_ble_eq_true rfl, Nat.le_of_ble_eq_true rfl⟩) ?_
        refine jz_bool_eq (tgt := 47) C dX4_calm_39 (by decide) (fun h39 => ?_) (fun h39 => ?_)
        · skip
          refine lv_aload_n hx hb dX4_calm_47 rfl (lv_at hl 1 rfl) ?_
          refine lv_iload_n hx hb dX4_calm_48 rfl (lv_at hl 0 rfl) ?_
          refine lv_iload_n hx hb dX4_calm_49 rfl (lv_at hl 2 rfl) ?_
          refine jc_V C hl.1 (jpreV hE hP 4 0 rfl rfl) (c_X4_vaneIn ((am (fun y9 : Nat => mx (mm F (wt F R (y9 : Int))) (Int.toNat (F 7))) (2 ^ (Int.toNat (2 * (F 3))))).1) w hM.works (show 0 ≤ ((am (fun y9 : Nat => mx (mm F (wt F R (y9 : Int))) (Int.toNat (F 7))) (2 ^ (Int.toNat (2 * (F 3))))).1) ∧ ((am (fun y9 : Nat => mx (mm F (wt F R (y9 : Int))) (Int.toNat (F 7))) (2 ^ (Int.toNat (2 * (F 3))))).1) < 256 from (by omega)) (show 0 ≤ w ∧ w < (F 3) from (by omega))) (cwV 2 C.2.2.2.2 gX4_calm_X4_vaneIn rfl rfl rfl (by decide +kernel) ⟨Nat.le_of_ble_eq_true rfl, Nat.le_of_ble_eq_true rfl⟩) (As := [.int (iI ((am (fun y9 : Nat => mx (mm F (wt F R (y9 : Int))) (Int.toNat (F 7))) (2 ^ (Int.toNat (2 * (F 3))))).1)), .int (iI (w))]) (v := .int (iI (vz (F 3) ((am (fun y9 : Nat => mx (mm F (wt F R (y9 : Int))) (Int.toNat (F 7))) (2 ^ (Int.toNat (2 * (F 3))))).1) w))) (hn := rfl) (hst := rfl) (rest := []) (hW := Nat.le_of_ble_eq_true rfl) (hdg := dX4_calm_50) (hf := ⟨Nat.le_of_ble_eq_true rfl, Nat.le_of_ble_eq_true rfl⟩) ?_
          have hk9 : k_X4_calm F R w = (vz (F 3) ((am (fun y9 : Nat => mx (mm F (wt F R (y9 : Int))) (Int.toNat (F 7))) (2 ^ (Int.toNat (2 * (F 3))))).1) w, (u1 F 23 ((am (fun y9 : Nat => mx (mm F (wt F R (y9 : Int))) (Int.toNat (F 7))) (2 ^ (Int.toNat (2 * (F 3))))).2)), R) := by rw [k_X4_calm, (if_neg (Int.not_lt.mpr h2)), (if_neg (h11)), (if_neg (Int.not_lt.mpr h24)), (if_neg h39)]
          exact hret _ ((u1 F 23 ((am (fun y9 : Nat => mx (mm F (wt F R (y9 : Int))) (Int.toNat (F 7))) (2 ^ (Int.toNat (2 * (F 3))))).2)), R) _ _ _ _ dX4_calm_53 ⟨by rw [hk9], by rw [hk9], by rw [hk9]⟩ hP hS
        · skip
          refine jz_bipush C dX4_calm_42 (by decide +kernel) ?_
          refine lv_goto (tgt := 53) hx hb dX4_calm_44 (by decide) ?_
          have hk9 : k_X4_calm F R w = (-9, (u1 F 23 ((am (fun y9 : Nat => mx (mm F (wt F R (y9 : Int))) (Int.toNat (F 7))) (2 ^ (Int.toNat (2 * (F 3))))).2)), R) := by rw [k_X4_calm, (if_neg (Int.not_lt.mpr h2)), (if_neg (h11)), (if_neg (Int.not_lt.mpr h24)), (if_pos h39)]
          exact hret _ ((u1 F 23 ((am (fun y9 : Nat => mx (mm F (wt F R (y9 : Int))) (Int.toNat (F 7))) (2 ^ (Int.toNat (2 * (F 3))))).2)), R) _ _ _ _ dX4_calm_53 ⟨by rw [hk9], by rw [hk9], by rw [hk9]⟩ hP hS
      · skip
        refine lv_aload_n hx hb dX4_calm_27 rfl (lv_at hl 1 rfl) ?_
        refine fg_M_leastIs C hin4 hE hP (v := (am (fun y9 : Nat => mx (mm F (wt F R (y9 : Int))) (Int.toNat (F 7))) (2 ^ (Int.toNat (2 * (F 3))))).2) (List.mem_of_getElem? (i := 2) rfl) dX4_calm_28 rfl ?_
        refine lv_goto (tgt := 53) hx hb dX4_calm_31 (by decide) ?_
        have hk9 : k_X4_calm F R w = ((am (fun y9 : Nat => mx (mm F (wt F R (y9 : Int))) (Int.toNat (F 7))) (2 ^ (Int.toNat (2 * (F 3))))).2, (u1 F 23 ((am (fun y9 : Nat => mx (mm F (wt F R (y9 : Int))) (Int.toNat (F 7))) (2 ^ (Int.toNat (2 * (F 3))))).2)), R) := by rw [k_X4_calm, (if_neg (Int.not_lt.mpr h2)), (if_neg (h11)), (if_pos h24)]
        exact hret _ ((u1 F 23 ((am (fun y9 : Nat => mx (mm F (wt F R (y9 : Int))) (Int.toNat (F 7))) (2 ^ (Int.toNat (2 * (F 3))))).2)), R) _ _ _ _ dX4_calm_53 ⟨by rw [hk9], by rw [hk9], by rw [hk9]⟩ hP hS
    · skip
      refine jz_bipush C dX4_calm_14 (by decide +kernel) ?_
      have hk9 : k_X4_calm F R w = (-3, F, R) := by rw [k_X4_calm, (if_neg (Int.not_lt.mpr h2)), (if_pos h11)]
      exact hret _ (F, R) _ _ _ _ dX4_calm_16 ⟨by rw [hk9], by rw [hk9], by rw [hk9]⟩ hP hS
  · skip
    refine jz_const C dX4_calm_5 ?_
    have hk9 : k_X4_calm F R w = (-1, F, R) := by rw [k_X4_calm, (if_pos h2)]
    exact hret _ (F, R) _ _ _ _ dX4_calm_6 ⟨by rw [hk9], by rw [hk9], by rw [hk9]⟩ hP hS
def k_X4_bribe (F : Nat → Int) (R : Nat → Nat → Int) (w : Int) (v : Int) : Int × (Nat → Int) × (Nat → Nat → Int) := if ¬ (0 ≤ w ∧ w ≤ (F 3) - 1) then ((-1, F, R)) else (if 0 ≤ v ∧ v ≤ 3 then (((br (fun y9 : Nat => decide (wm F R w (y9 : Int) v = v)) (2 ^ (Int.toNat (F 7)))).1, F, R)) else ((-2, F, R)))
abbrev rm_X4_bribe : Room := { frames := 5, cells := 0, slots := 0, locals := 129 }
set_option maxHeartbeats 4000000 in
set_option maxRecDepth 100000 in
theorem c_X4_bribe {l : Launch} {D : va_G} {cI cS : ClassId} {ad : Nat → Nat} {F : Nat → Int} {R : Nat → Nat → Int} {A : Nat → Prop} (hD : va_D A (wM cI ad F R))  (w : Int) (v : Int)  (hS9 : MV F R) (hr_w : -2147483648 ≤ w ∧ w < 2147483648) (hr_v : -2147483648 ≤ v ∧ v < 2147483648): JV l yX4_bribe wsX4_bribe rm_X4_bribe (jB D cI cS (wM cI ad F R)) A [.ref (ad 0), .int (iI (w)), .int (iI (v))] (fun v9 (u9 : (Nat → Int) × (Nat → Nat → Int)) => v9 = some (.int (iI (k_X4_bribe F R w v).1)) ∧ u9.1 = (k_X4_bribe F R w v).2.1 ∧ u9.2 = (k_X4_bribe F R w v).2.2) (fun u9 H => va_P D vwCl (wM cI ad u9.1 u9.2) H) := by
  refine JV.mkI rfl (by decide +kernel) rfl (Nat.le_of_ble_eq_true rfl) ?_
  intro p e st mi ar bl mth cd Q ls C hB hl hret
  obtain ⟨hE, hP⟩ := hB
  have hx := C.1
  have hb := C.2.1
  have hl : lv_has ls 5 [(0, .ref (ad 0)), (1, .int (iI (w))), (2, .int (iI (v)))] := hl
  have hin4 : ∀ w ∈ wsX40, w ∈ wsX4_bribe := fun _ h => List.mem_cons_of_mem _ (List.mem_append_right _ h)
  suffices hgo : ∀ (H : Heap) (lc : List Loc), va_P D vwCl (wM cI ad F R) H → va_S A st.heap H lc → W p l e rm_X4_bribe st mi ar bl mth cd H lc 0 0 Q (F0 mi 0 ls []) from hgo _ _ hP va_S.rf
  clear hP
  intro H lc hP hS
  have hM := hS9.town
  have hW := hM.works
  have hK := hM.wards
  have hlaw := hM.law
  have hrd := hM.reads
  have hsp := hM.spots
  have hhi := hM.high
  have hwd := hM.wide
  have hP8 := pw8 hW
  have hen := en_bd4 hW hM.vane
  refine lv_aload_n hx hb dX4_bribe_0 rfl (lv_at hl 0 rfl) ?_
  refine lv_iload_n hx hb dX4_bribe_1 rfl (lv_at hl 1 rfl) ?_
  refine jc_V C hl.1 (jpreV hE hP 4 0 rfl rfl) (c_X4_noWork w hM.works (show -2147483648 ≤ w ∧ w < 2147483648 from (by omega))) (cwV 1 C.2.2.2.2 gX4_bribe_X4_noWork rfl rfl rfl (by decide +kernel) ⟨Nat.le_of_ble_eq_true rfl, Nat.le_of_ble_eq_true rfl⟩) (As := [.int (iI (w))]) (v := .int (iI (if ¬ (0 ≤ w ∧ w ≤ (F 3) - 1) then 1 else 0))) (hn := rfl) (hst := rfl) (rest := []) (hW := Nat.le_of_ble_eq_true rfl) (hdg := dX4_bribe_2) (hf := ⟨Nat.le_of_ble_eq_true rfl, Nat.le_of_ble_eq_true rfl⟩) ?_
  refine jz_bool_eq (tgt := 10) C dX4_bribe_5 (by decide) (fun h5 => ?_) (fun h5 => ?_)
  · skip
    refine lv_iload_n hx hb dX4_bribe_10 rfl (lv_at hl 2 rfl) ?_
    refine jz_i2l C dX4_bribe_11 (by omega) ?_
    refine jz_lconst (z := 0) C rfl dX4_bribe_12 ?_
    refine jz_ldc2 (z := 3) C (List.mem_of_getElem? (i := 1) rfl) (by decide +kernel) dX4_bribe_13 ?_
    refine jc_S C hl.1 (jpreS hE hP) (c_X4_in v 0 3 (show -9223372036854775808 ≤ v ∧ v < 9223372036854775808 from (by omega)) (show -9223372036854775808 ≤ 0 ∧ 0 < 9223372036854775808 from (by omega)) (show -9223372036854775808 ≤ 3 ∧ 3 < 9223372036854775808 from (by omega))) (va_cwS 3 C.2.2.2.2 gX4_bribe_X4_in rfl rfl rfl (by decide +kernel) ⟨Nat.le_of_ble_eq_true rfl, Nat.le_of_ble_eq_true rfl⟩) (As := [.long (lI (v)), .long (lI (0)), .long (lI (3))]) (v := .int (iI (if 0 ≤ v ∧ v ≤ 3 then 1 else 0))) (hn := rfl) (hst := rfl) (rest := []) (hW := Nat.le_of_ble_eq_true rfl) (hdg := dX4_bribe_16) (hf := ⟨Nat.le_of_ble_eq_true rfl, Nat.le_of_ble_eq_true rfl⟩) ?_
    refine jz_bool_ne (tgt := 25) C dX4_bribe_19 (by decide) (fun h19 => ?_) (fun h19 => ?_)
    · skip
      refine jz_bipush C dX4_bribe_25 (by decide +kernel) ?_
      refine lv_istore_n (lv' := [(3, .int (iI (-9))), (0, .ref (ad 0)), (1, .int (iI (w))), (2, .int (iI (v)))]) hx hb dX4_bribe_27 rfl hl (by decide) rfl (fun ls hl => ?_)
      refine jz_const C dX4_bribe_28 ?_
      refine lv_istore (lv' := [(4, .int (iI (0))), (3, .int (iI (-9))), (0, .ref (ad 0)), (1, .int (iI (w))), (2, .int (iI (v)))]) hx hb dX4_bribe_29 hl (by decide) rfl (fun ls hl => ?_)
      have hP6 := pw6 hK
      have hpwb := pwN (Int.toNat (F 7))
      have key31 : ∀ (n31 : Nat) (t : Nat) (ht : (t : Int) ≤ 2 ^ (Int.toNat (F 7))), (2 ^ (Int.toNat (F 7)) - (t : Int) : Int) < n31 → ∀ (H : Heap) (lc : List Loc), va_P D vwCl (wM cI ad F R) H → va_S A st.heap H lc → ∀ (ls : Array Slot), lv_has ls 5 [(4, .int (iI ((t : Int)))), (3, .int (iI ((br (fun y9 : Nat => decide (wm F R w (y9 : Int) v = v)) t).1))), (0, .ref (ad 0)), (1, .int (iI (w))), (2, .int (iI (v)))] → W p l e rm_X4_bribe st mi ar bl mth cd H lc 0 0 Q (F0 mi 31 ls []) := by
        intro n31
        induction n31 with
        | zero => intro t ht hn9; exfalso; omega
        | succ n31 ih31 =>
          intro t ht hn9 H lc hP hS ls hl
          have hP6 := pw6 hK
          have hpwb := pwN (Int.toNat (F 7))
          refine lv_iload hx hb dX4_bribe_31 (lv_at hl 0 rfl) ?_
          refine jz_const C dX4_bribe_33 ?_
          refine lv_aload_n hx hb dX4_bribe_34 rfl (lv_at hl 2 rfl) ?_
          refine fg_M_wards C hin4 hE hP (v := F 7) (List.mem_of_getElem? (i := 2) rfl) dX4_bribe_35 rfl ?_
          refine jz_ishl (k := (Int.toNat (F 7))) C dX4_bribe_38 ⟨by omega, by omega, by omega, by rw [Int.one_mul]; omega⟩ ?_
          refine jz_icmp_ge (tgt := 79) C dX4_bribe_39 (by decide) (by rw [Int.one_mul]; omega) (fun h39 => ?_) (fun h39 => ?_)
          · skip
            rw [Int.one_mul] at h39
            have hg9 : t = 2 ^ (Int.toNat (F 7)) := (by omega)
            subst hg9
            have hl : lv_has ls 5 [(3, .int (iI ((br (fun y9 : Nat => decide (wm F R w (y9 : Int) v = v)) (2 ^ (Int.toNat (F 7)))).1))), (0, .ref (ad 0)), (1, .int (iI (w))), (2, .int (iI (v)))] := lv_sub hl [1, 2, 3, 4] rfl
            refine lv_iload_n hx hb dX4_bribe_79 rfl (lv_at hl 0 rfl) ?_
            have hk9 : k_X4_bribe F R w v = ((br (fun y9 : Nat => decide (wm F R w (y9 : Int) v = v)) (2 ^ (Int.toNat (F 7)))).1, F, R) := by rw [k_X4_bribe, (if_neg h5), (if_pos h19)]
            exact hret _ (F, R) _ _ _ _ dX4_bribe_80 ⟨by rw [hk9], by rw [hk9], by rw [hk9]⟩ hP hS
          · skip
            rw [Int.one_mul] at h39
            have hbr := br_bd (P := (fun y9 : Nat => decide (wm F R w (y9 : Int) v = v))) (n := t)
            have hbt : (br (fun y9 : Nat => decide (wm F R w (y9 : Int) v = v)) t).1 < 64 := by have h5 := hbr.2.1; split at h5 <;> omega
            have hpc := pcz_bd t
            have hpcb := pcz_bd (Int.toNat (br (fun y9 : Nat => decide (wm F R w (y9 : Int) v = v)) t).1)
            have hpc2 := br_pc (P := (fun y9 : Nat => decide (wm F R w (y9 : Int) v = v))) (n := t)
            refine lv_iload_n hx hb dX4_bribe_42 rfl (lv_at hl 1 rfl) ?_
            refine jz_if_lt (tgt := 58) C dX4_bribe_43 (by decide) (by omega) (fun h43 => ?_) (fun h43 => ?_)
            · skip
              refine lv_aload_n hx hb dX4_bribe_58 rfl (lv_at hl 2 rfl) ?_
              refine lv_iload_n hx hb dX4_bribe_59 rfl (lv_at hl 3 rfl) ?_
              refine lv_iload hx hb dX4_bribe_60 (lv_at hl 0 rfl) ?_
              refine lv_iload_n hx hb dX4_bribe_62 rfl (lv_at hl 4 rfl) ?_
              have hwi : 0 ≤ wm F R w (t : Int) v ∧ wm F R w (t : Int) v < 4 := wi_bd
              refine jw_V C hl.1 (jpreV hE hP 4 0 rfl rfl) (c_X4_winsBy (A := A) (jDM hD) w (t : Int) v (by first | exact hM | assumption) (show 0 ≤ w ∧ w < (F 3) from (by omega)) (show 0 ≤ (t : Int) ∧ (t : Int) < 64 from (by omega)) (show 0 ≤ v ∧ v < 4 from (by omega))) (cwV 3 C.2.2.2.2 gX4_bribe_X4_winsBy rfl rfl rfl (by decide +kernel) ⟨Nat.le_of_ble_eq_true rfl, Nat.le_of_ble_eq_true rfl⟩) (As := [.int (iI (w)), .int (iI ((t : Int))), .int (iI (v))]) (hn := rfl) (hst := rfl) (rest := []) (hW := Nat.le_of_ble_eq_true rfl) (hdg := dX4_bribe_63) (hf := ⟨Nat.le_of_ble_eq_true rfl, Nat.le_of_ble_eq_true rfl⟩) hS (fun v9 uq63 H lc hq9 hP hS => ?_)
              obtain rfl : v9 = some (.int (iI (wm F R w (t : Int) v))) := hq9
              have hP : va_P D vwCl (wM cI ad F R) H := hP
              refine lv_iload_n hx hb dX4_bribe_66 rfl (lv_at hl 4 rfl) ?_
              refine jz_icmp_ne (tgt := 73) C dX4_bribe_67 (by decide) (by omega) (fun h67 => ?_) (fun h67 => ?_)
              · skip
                refine jz_iinc (k := 0) (z := (t : Int) + 1) (lv' := [(4, .int (iI ((t : Int) + 1))), (3, .int (iI ((br (fun y9 : Nat => decide (wm F R w (y9 : Int) v = v)) t).1))), (0, .ref (ad 0)), (1, .int (iI (w))), (2, .int (iI (v)))]) C dX4_bribe_73 hl rfl rfl (by decide) rfl (fun ls hl => ?_)
                refine lv_goto (tgt := 31) hx hb dX4_bribe_76 (by decide) ?_
                have hP6 := pw6 hK
                have hpwb := pwN (Int.toNat (F 7))
                have hl9 : lv_has ls 5 [(4, .int (iI ((t + 1 : Int)))), (3, .int (iI ((br (fun y9 : Nat => decide (wm F R w (y9 : Int) v = v)) (t + 1)).1))), (0, .ref (ad 0)), (1, .int (iI (w))), (2, .int (iI (v)))] := by
                  rw [show ((br (fun y9 : Nat => decide (wm F R w (y9 : Int) v = v)) (t + 1)).1 : Int) = (br (fun y9 : Nat => decide (wm F R w (y9 : Int) v = v)) t).1 from by first | rw [br_s1 (by have := hpc2; omega) (decide_eq_true h67)] | rw [br_s3 (fun q => h67 (of_decide_eq_true q))] | rw [br_s2 (by have := hpc2; omega)]]
                  exact lv_sub hl [0, 1, 2, 3, 4] rfl
                exact ih31 (t + 1) (by omega) (by omega) _ _ hP hS ls hl9
              · skip
                refine lv_iload hx hb dX4_bribe_70 (lv_at hl 0 rfl) ?_
                refine lv_istore_n (lv' := [(3, .int (iI ((t : Int)))), (4, .int (iI ((t : Int)))), (0, .ref (ad 0)), (1, .int (iI (w))), (2, .int (iI (v)))]) hx hb dX4_bribe_72 rfl hl (by decide) rfl (fun ls hl => ?_)
                refine jz_iinc (k := 1) (z := (t : Int) + 1) (lv' := [(4, .int (iI ((t : Int) + 1))), (3, .int (iI ((t : Int)))), (0, .ref (ad 0)), (1, .int (iI (w))), (2, .int (iI (v)))]) C dX4_bribe_73 hl rfl rfl (by decide) rfl (fun ls hl => ?_)
                refine lv_goto (tgt := 31) hx hb dX4_bribe_76 (by decide) ?_
                have hP6 := pw6 hK
                have hpwb := pwN (Int.toNat (F 7))
                have hl9 : lv_has ls 5 [(4, .int (iI ((t + 1 : Int)))), (3, .int (iI ((br (fun y9 : Nat => decide (wm F R w (y9 : Int) v = v)) (t + 1)).1))), (0, .ref (ad 0)), (1, .int (iI (w))), (2, .int (iI (v)))] := by
                  rw [show ((br (fun y9 : Nat => decide (wm F R w (y9 : Int) v = v)) (t + 1)).1 : Int) = (t : Int) from by first | rw [br_s1 (by have := hpc2; omega) (decide_eq_true h67)] | rw [br_s3 (fun q => h67 (of_decide_eq_true q))] | rw [br_s2 (by have := hpc2; omega)]]
                  exact lv_sub hl [0, 1, 2, 3, 4] rfl
                exact ih31 (t + 1) (by omega) (by omega) _ _ hP hS ls hl9
            · skip
              refine lv_iload hx hb dX4_bribe_46 (lv_at hl 0 rfl) ?_
              refine jc_S C hl.1 (jpreS hE hP) (c_X4_bits (t : Int) (show 0 ≤ (t : Int) ∧ (t : Int) < 64 from (by omega))) (va_cwS 1 C.2.2.2.2 gX4_bribe_X4_bits rfl rfl rfl (by decide +kernel) ⟨Nat.le_of_ble_eq_true rfl, Nat.le_of_ble_eq_true rfl⟩) (As := [.int (iI ((t : Int)))]) (v := .int (iI (pcz t))) (hn := rfl) (hst := rfl) (rest := []) (hW := Nat.le_of_ble_eq_true rfl) (hdg := dX4_bribe_48) (hf := ⟨Nat.le_of_ble_eq_true rfl, Nat.le_of_ble_eq_true rfl⟩) ?_
              refine lv_iload_n hx hb dX4_bribe_51 rfl (lv_at hl 1 rfl) ?_
              refine jc_S C hl.1 (jpreS hE hP) (c_X4_bits ((br (fun y9 : Nat => decide (wm F R w (y9 : Int) v = v)) t).1) ⟨h43, by omega⟩) (va_cwS 1 C.2.2.2.2 gX4_bribe_X4_bits rfl rfl rfl (by decide +kernel) ⟨Nat.le_of_ble_eq_true rfl, Nat.le_of_ble_eq_true rfl⟩) (As := [.int (iI ((br (fun y9 : Nat => decide (wm F R w (y9 : Int) v = v)) t).1))]) (v := .int (iI (pcz (Int.toNat ((br (fun y9 : Nat => decide (wm F R w (y9 : Int) v = v)) t).1))))) (hn := rfl) (hst := rfl) (rest := [.int (iI (pcz t))]) (hW := Nat.le_of_ble_eq_true rfl) (hdg := dX4_bribe_52) (hf := ⟨Nat.le_of_ble_eq_true rfl, Nat.le_of_ble_eq_true rfl⟩) ?_
              refine jz_icmp_ge (tgt := 73) C dX4_bribe_55 (by decide) (by omega) (fun h55 => ?_) (fun h55 => ?_)
              · skip
                refine jz_iinc (k := 0) (z := (t : Int) + 1) (lv' := [(4, .int (iI ((t : Int) + 1))), (3, .int (iI ((br (fun y9 : Nat => decide (wm F R w (y9 : Int) v = v)) t).1))), (0, .ref (ad 0)), (1, .int (iI (w))), (2, .int (iI (v)))]) C dX4_bribe_73 hl rfl rfl (by decide) rfl (fun ls hl => ?_)
                refine lv_goto (tgt := 31) hx hb dX4_bribe_76 (by decide) ?_
                have hP6 := pw6 hK
                have hpwb := pwN (Int.toNat (F 7))
                have hl9 : lv_has ls 5 [(4, .int (iI ((t + 1 : Int)))), (3, .int (iI ((br (fun y9 : Nat => decide (wm F R w (y9 : Int) v = v)) (t + 1)).1))), (0, .ref (ad 0)), (1, .int (iI (w))), (2, .int (iI (v)))] := by
                  rw [show ((br (fun y9 : Nat => decide (wm F R w (y9 : Int) v = v)) (t + 1)).1 : Int) = (br (fun y9 : Nat => decide (wm F R w (y9 : Int) v = v)) t).1 from by first | rw [br_s1 (by have := hpc2; omega) (decide_eq_true h67)] | rw [br_s3 (fun q => h67 (of_decide_eq_true q))] | rw [br_s2 (by have := hpc2; omega)]]
                  exact lv_sub hl [0, 1, 2, 3, 4] rfl
                exact ih31 (t + 1) (by omega) (by omega) _ _ hP hS ls hl9
              · skip
                refine lv_aload_n hx hb dX4_bribe_58 rfl (lv_at hl 2 rfl) ?_
                refine lv_iload_n hx hb dX4_bribe_59 rfl (lv_at hl 3 rfl) ?_
                refine lv_iload hx hb dX4_bribe_60 (lv_at hl 0 rfl) ?_
                refine lv_iload_n hx hb dX4_bribe_62 rfl (lv_at hl 4 rfl) ?_
                have hwi : 0 ≤ wm F R w (t : Int) v ∧ wm F R w (t : Int) v < 4 := wi_bd
                refine jw_V C hl.1 (jpreV hE hP 4 0 rfl rfl) (c_X4_winsBy (A := A) (jDM hD) w (t : Int) v (by first | exact hM | assumption) (show 0 ≤ w ∧ w < (F 3) from (by omega)) (show 0 ≤ (t : Int) ∧ (t : Int) < 64 from (by omega)) (show 0 ≤ v ∧ v < 4 from (by omega))) (cwV 3 C.2.2.2.2 gX4_bribe_X4_winsBy rfl rfl rfl (by decide +kernel) ⟨Nat.le_of_ble_eq_true rfl, Nat.le_of_ble_eq_true rfl⟩) (As := [.int (iI (w)), .int (iI ((t : Int))), .int (iI (v))]) (hn := rfl) (hst := rfl) (rest := []) (hW := Nat.le_of_ble_eq_true rfl) (hdg := dX4_bribe_63) (hf := ⟨Nat.le_of_ble_eq_true rfl, Nat.le_of_ble_eq_true rfl⟩) hS (fun v9 uq63 H lc hq9 hP hS => ?_)
                obtain rfl : v9 = some (.int (iI (wm F R w (t : Int) v))) := hq9
                have hP : va_P D vwCl (wM cI ad F R) H := hP
                refine lv_iload_n hx hb dX4_bribe_66 rfl (lv_at hl 4 rfl) ?_
                refine jz_icmp_ne (tgt := 73) C dX4_bribe_67 (by decide) (by omega) (fun h67 => ?_) (fun h67 => ?_)
                · skip
                  refine jz_iinc (k := 0) (z := (t : Int) + 1) (lv' := [(4, .int (iI ((t : Int) + 1))), (3, .int (iI ((br (fun y9 : Nat => decide (wm F R w (y9 : Int) v = v)) t).1))), (0, .ref (ad 0)), (1, .int (iI (w))), (2, .int (iI (v)))]) C dX4_bribe_73 hl rfl rfl (by decide) rfl (fun ls hl => ?_)
                  refine lv_goto (tgt := 31) hx hb dX4_bribe_76 (by decide) ?_
                  have hP6 := pw6 hK
                  have hpwb := pwN (Int.toNat (F 7))
                  have hl9 : lv_has ls 5 [(4, .int (iI ((t + 1 : Int)))), (3, .int (iI ((br (fun y9 : Nat => decide (wm F R w (y9 : Int) v = v)) (t + 1)).1))), (0, .ref (ad 0)), (1, .int (iI (w))), (2, .int (iI (v)))] := by
                    rw [show ((br (fun y9 : Nat => decide (wm F R w (y9 : Int) v = v)) (t + 1)).1 : Int) = (br (fun y9 : Nat => decide (wm F R w (y9 : Int) v = v)) t).1 from by first | rw [br_s1 (by have := hpc2; omega) (decide_eq_true h67)] | rw [br_s3 (fun q => h67 (of_decide_eq_true q))] | rw [br_s2 (by have := hpc2; omega)]]
                    exact lv_sub hl [0, 1, 2, 3, 4] rfl
                  exact ih31 (t + 1) (by omega) (by omega) _ _ hP hS ls hl9
                · skip
                  refine lv_iload hx hb dX4_bribe_70 (lv_at hl 0 rfl) ?_
                  refine lv_istore_n (lv' := [(3, .int (iI ((t : Int)))), (4, .int (iI ((t : Int)))), (0, .ref (ad 0)), (1, .int (iI (w))), (2, .int (iI (v)))]) hx hb dX4_bribe_72 rfl hl (by decide) rfl (fun ls hl => ?_)
                  refine jz_iinc (k := 1) (z := (t : Int) + 1) (lv' := [(4, .int (iI ((t : Int) + 1))), (3, .int (iI ((t : Int)))), (0, .ref (ad 0)), (1, .int (iI (w))), (2, .int (iI (v)))]) C dX4_bribe_73 hl rfl rfl (by decide) rfl (fun ls hl => ?_)
                  refine lv_goto (tgt := 31) hx hb dX4_bribe_76 (by decide) ?_
                  have hP6 := pw6 hK
                  have hpwb := pwN (Int.toNat (F 7))
                  have hl9 : lv_has ls 5 [(4, .int (iI ((t + 1 : Int)))), (3, .int (iI ((br (fun y9 : Nat => decide (wm F R w (y9 : Int) v = v)) (t + 1)).1))), (0, .ref (ad 0)), (1, .int (iI (w))), (2, .int (iI (v)))] := by
                    rw [show ((br (fun y9 : Nat => decide (wm F R w (y9 : Int) v = v)) (t + 1)).1 : Int) = (t : Int) from by first | rw [br_s1 (by have := hpc2; omega) (decide_eq_true h67)] | rw [br_s3 (fun q => h67 (of_decide_eq_true q))] | rw [br_s2 (by have := hpc2; omega)]]
                    exact lv_sub hl [0, 1, 2, 3, 4] rfl
                  exact ih31 (t + 1) (by omega) (by omega) _ _ hP hS ls hl9
      exact key31 (Int.toNat (2 ^ (Int.toNat (F 7)) - (0 : Int)) + 1) 0 (by omega) (by omega) _ _ hP hS ls (lv_sub hl [0, 1, 2, 3, 4] rfl)
    · skip
      refine jz_bipush C dX4_bribe_22 (by decide +kernel) ?_
      have hk9 : k_X4_bribe F R w v = (-2, F, R) := by rw [k_X4_bribe, (if_neg h5), (if_neg h19)]
      exact hret _ (F, R) _ _ _ _ dX4_bribe_24 ⟨by rw [hk9], by rw [hk9], by rw [hk9]⟩ hP hS
  · skip
    refine jz_const C dX4_bribe_8 ?_
    have hk9 : k_X4_bribe F R w v = (-1, F, R) := by rw [k_X4_bribe, (if_pos h5)]
    exact hret _ (F, R) _ _ _ _ dX4_bribe_9 ⟨by rw [hk9], by rw [hk9], by rw [hk9]⟩ hP hS
def k_X4_reading (F : Nat → Int) (R : Nat → Nat → Int) (c : Int) (v : Int) : Int × (Nat → Int) × (Nat → Nat → Int) := if ¬ (0 ≤ c ∧ c ≤ (F 1) * (F 2) - 1) then ((-1, F, R)) else (if 0 ≤ v ∧ v ≤ 99 then (if (F 24) = 8 then ((-4, F, R)) else ((((F 24) + 1) - 1, (u1 F 24 ((F 24) + 1)), (uR (uR R 25 (u1 (R 25) (Int.toNat (F 24)) c)) 26 (u1 (R 26) (Int.toNat (F 24)) v))))) else ((-2, F, R)))
abbrev rm_X4_reading : Room := { frames := 2, cells := 0, slots := 0, locals := 46 }
set_option maxHeartbeats 4000000 in
set_option maxRecDepth 100000 in
theorem c_X4_reading {l : Launch} {D : va_G} {cI cS : ClassId} {ad : Nat → Nat} {F : Nat → Int} {R : Nat → Nat → Int} {A : Nat → Prop} (hD : va_D A (wM cI ad F R))  (c : Int) (v : Int)  (hS9 : MV F R) (hr_c : -2147483648 ≤ c ∧ c < 2147483648) (hr_v : -2147483648 ≤ v ∧ v < 2147483648): JV l yX4_reading wsX4_reading rm_X4_reading (jB D cI cS (wM cI ad F R)) A [.ref (ad 0), .int (iI (c)), .int (iI (v))] (fun v9 (u9 : (Nat → Int) × (Nat → Nat → Int)) => v9 = some (.int (iI (k_X4_reading F R c v).1)) ∧ u9.1 = (k_X4_reading F R c v).2.1 ∧ u9.2 = (k_X4_reading F R c v).2.2) (fun u9 H => va_P D vwCl (wM cI ad u9.1 u9.2) H) := by
  refine JV.mkI rfl (by decide +kernel) rfl (Nat.le_of_ble_eq_true rfl) ?_
  intro p e st mi ar bl mth cd Q ls C hB hl hret
  obtain ⟨hE, hP⟩ := hB
  have hx := C.1
  have hb := C.2.1
  have hl : lv_has ls 3 [(0, .ref (ad 0)), (1, .int (iI (c))), (2, .int (iI (v)))] := hl
  have hin4 : ∀ w ∈ wsX40, w ∈ wsX4_reading := fun _ h => List.mem_cons_of_mem _ (List.mem_append_right _ h)
  suffices hgo : ∀ (H : Heap) (lc : List Loc), va_P D vwCl (wM cI ad F R) H → va_S A st.heap H lc → W p l e rm_X4_reading st mi ar bl mth cd H lc 0 0 Q (F0 mi 0 ls []) from hgo _ _ hP va_S.rf
  clear hP
  intro H lc hP hS
  have hM := hS9.town
  have hW := hM.works
  have hK := hM.wards
  have hlaw := hM.law
  have hrd := hM.reads
  have hsp := hM.spots
  have hhi := hM.high
  have hwd := hM.wide
  have hP8 := pw8 hW
  have hen := en_bd4 hW hM.vane
  refine lv_aload_n hx hb dX4_reading_0 rfl (lv_at hl 0 rfl) ?_
  refine lv_iload_n hx hb dX4_reading_1 rfl (lv_at hl 1 rfl) ?_
  refine jc_V C hl.1 (jpreV hE hP 4 0 rfl rfl) (c_X4_noSpot c hM.spots (show -2147483648 ≤ c ∧ c < 2147483648 from (by omega))) (cwV 1 C.2.2.2.2 gX4_reading_X4_noSpot rfl rfl rfl (by decide +kernel) ⟨Nat.le_of_ble_eq_true rfl, Nat.le_of_ble_eq_true rfl⟩) (As := [.int (iI (c))]) (v := .int (iI (if ¬ (0 ≤ c ∧ c ≤ (F 1) * (F 2) - 1) then 1 else 0))) (hn := rfl) (hst := rfl) (rest := []) (hW := Nat.le_of_ble_eq_true rfl) (hdg := dX4_reading_2) (hf := ⟨Nat.le_of_ble_eq_true rfl, Nat.le_of_ble_eq_true rfl⟩) ?_
  refine jz_bool_eq (tgt := 10) C dX4_reading_5 (by decide) (fun h5 => ?_) (fun h5 => ?_)
  · skip
    refine lv_iload_n hx hb dX4_reading_10 rfl (lv_at hl 2 rfl) ?_
    refine jz_i2l C dX4_reading_11 (by omega) ?_
    refine jz_lconst (z := 0) C rfl dX4_reading_12 ?_
    refine jz_ldc2 (z := 99) C (List.mem_of_getElem? (i := 1) rfl) (by decide +kernel) dX4_reading_13 ?_
    refine jc_S C hl.1 (jpreS hE hP) (c_X4_in v 0 99 (show -9223372036854775808 ≤ v ∧ v < 9223372036854775808 from (by omega)) (show -9223372036854775808 ≤ 0 ∧ 0 < 9223372036854775808 from (by omega)) (show -9223372036854775808 ≤ 99 ∧ 99 < 9223372036854775808 from (by omega))) (va_cwS 3 C.2.2.2.2 gX4_reading_X4_in rfl rfl rfl (by decide +kernel) ⟨Nat.le_of_ble_eq_true rfl, Nat.le_of_ble_eq_true rfl⟩) (As := [.long (lI (v)), .long (lI (0)), .long (lI (99))]) (v := .int (iI (if 0 ≤ v ∧ v ≤ 99 then 1 else 0))) (hn := rfl) (hst := rfl) (rest := []) (hW := Nat.le_of_ble_eq_true rfl) (hdg := dX4_reading_16) (hf := ⟨Nat.le_of_ble_eq_true rfl, Nat.le_of_ble_eq_true rfl⟩) ?_
    refine jz_bool_ne (tgt := 25) C dX4_reading_19 (by decide) (fun h19 => ?_) (fun h19 => ?_)
    · skip
      refine lv_aload_n hx hb dX4_reading_25 rfl (lv_at hl 0 rfl) ?_
      refine fg_M_readings C hin4 hE hP (v := F 24) (List.mem_of_getElem? (i := 2) rfl) dX4_reading_26 rfl ?_
      refine jz_bipush C dX4_reading_29 (by decide +kernel) ?_
      refine jz_icmp_ne (tgt := 37) C dX4_reading_31 (by decide) (by omega) (fun h31 => ?_) (fun h31 => ?_)
      · skip
        refine lv_aload_n hx hb dX4_reading_37 rfl (lv_at hl 0 rfl) ?_
        refine fg_M_readingOf C hin4 hE hP (List.mem_of_getElem? (i := 3) rfl) dX4_reading_38 ?_
        refine lv_aload_n hx hb dX4_reading_41 rfl (lv_at hl 0 rfl) ?_
        refine fg_M_readings C hin4 hE hP (v := F 24) (List.mem_of_getElem? (i := 2) rfl) dX4_reading_42 rfl ?_
        refine lv_iload_n hx hb dX4_reading_45 rfl (lv_at hl 1 rfl) ?_
        refine fs_M_readingOf C hE hP (jDM hD) hS dX4_reading_46 (by omega) (fun H lc hP hS => ?_)
        refine lv_aload_n hx hb dX4_reading_47 rfl (lv_at hl 0 rfl) ?_
        refine fg_M_readingSmell C hin4 hE hP (List.mem_of_getElem? (i := 4) rfl) dX4_reading_48 ?_
        refine lv_aload_n hx hb dX4_reading_51 rfl (lv_at hl 0 rfl) ?_
        refine fg_M_readings C hin4 hE hP (v := F 24) (List.mem_of_getElem? (i := 2) rfl) dX4_reading_52 rfl ?_
        refine lv_iload_n hx hb dX4_reading_55 rfl (lv_at hl 2 rfl) ?_
        refine fs_M_readingSmell C hE hP (jDM hD) hS dX4_reading_56 (by omega) (fun H lc hP hS => ?_)
        refine lv_aload_n hx hb dX4_reading_57 rfl (lv_at hl 0 rfl) ?_
        refine lv_dup hx hb dX4_reading_58 rfl ?_
        refine fg_M_readings C hin4 hE hP (v := F 24) (List.mem_of_getElem? (i := 2) rfl) dX4_reading_59 rfl ?_
        refine jz_const C dX4_reading_62 ?_
        refine jz_iadd C dX4_reading_63 ?_
        refine fp_M_readings C hin4 hE hP (jDM hD) hS (List.mem_of_getElem? (i := 2) rfl) dX4_reading_64 (fun H lc hP hS => ?_)
        refine lv_aload_n hx hb dX4_reading_67 rfl (lv_at hl 0 rfl) ?_
        refine fg_M_readings C hin4 hE hP (v := (F 24) + 1) (List.mem_of_getElem? (i := 2) rfl) dX4_reading_68 rfl ?_
        refine jz_const C dX4_reading_71 ?_
        refine jz_isub C dX4_reading_72 ?_
        have hk9 : k_X4_reading F R c v = (((F 24) + 1) - 1, (u1 F 24 ((F 24) + 1)), (uR (uR R 25 (u1 (R 25) (Int.toNat (F 24)) c)) 26 (u1 (R 26) (Int.toNat (F 24)) v))) := by rw [k_X4_reading, (if_neg h5), (if_pos h19), (if_neg (h31))]
        exact hret _ ((u1 F 24 ((F 24) + 1)), (uR (uR R 25 (u1 (R 25) (Int.toNat (F 24)) c)) 26 (u1 (R 26) (Int.toNat (F 24)) v))) _ _ _ _ dX4_reading_73 ⟨by rw [hk9], by rw [hk9], by rw [hk9]⟩ hP hS
      · skip
        refine jz_bipush C dX4_reading_34 (by decide +kernel) ?_
        have hk9 : k_X4_reading F R c v = (-4, F, R) := by rw [k_X4_reading, (if_neg h5), (if_pos h19), (if_pos h31)]
        exact hret _ (F, R) _ _ _ _ dX4_reading_36 ⟨by rw [hk9], by rw [hk9], by rw [hk9]⟩ hP hS
    · skip
      refine jz_bipush C dX4_reading_22 (by decide +kernel) ?_
      have hk9 : k_X4_reading F R c v = (-2, F, R) := by rw [k_X4_reading, (if_neg h5), (if_neg h19)]
      exact hret _ (F, R) _ _ _ _ dX4_reading_24 ⟨by rw [hk9], by rw [hk9], by rw [hk9]⟩ hP hS
  · skip
    refine jz_const C dX4_reading_8 ?_
    have hk9 : k_X4_reading F R c v = (-1, F, R) := by rw [k_X4_reading, (if_pos h5)]
    exact hret _ (F, R) _ _ _ _ dX4_reading_9 ⟨by rw [hk9], by rw [hk9], by rw [hk9]⟩ hP hS
def k_X4_back (F : Nat → Int) (R : Nat → Nat → Int) (k : Int) : Int × (Nat → Int) × (Nat → Nat → Int) := if 0 ≤ k ∧ k ≤ (F 24) then (((F 24) - k, (u1 F 24 ((F 24) - k)), R)) else ((-2, F, R))
abbrev rm_X4_back : Room := { frames := 1, cells := 0, slots := 0, locals := 25 }
set_option maxHeartbeats 4000000 in
set_option maxRecDepth 100000 in
theorem c_X4_back {l : Launch} {D : va_G} {cI cS : ClassId} {ad : Nat → Nat} {F : Nat → Int} {R : Nat → Nat → Int} {A : Nat → Prop} (hD : va_D A (wM cI ad F R))  (k : Int)  (hS9 : MV F R) (hr_k : -2147483648 ≤ k ∧ k < 2147483648): JV l yX4_back wsX4_back rm_X4_back (jB D cI cS (wM cI ad F R)) A [.ref (ad 0), .int (iI (k))] (fun v9 (u9 : (Nat → Int) × (Nat → Nat → Int)) => v9 = some (.int (iI (k_X4_back F R k).1)) ∧ u9.1 = (k_X4_back F R k).2.1 ∧ u9.2 = (k_X4_back F R k).2.2) (fun u9 H => va_P D vwCl (wM cI ad u9.1 u9.2) H) := by
  refine JV.mkI rfl (by decide +kernel) rfl (Nat.le_of_ble_eq_true rfl) ?_
  intro p e st mi ar bl mth cd Q ls C hB hl hret
  obtain ⟨hE, hP⟩ := hB
  have hx := C.1
  have hb := C.2.1
  have hl : lv_has ls 2 [(0, .ref (ad 0)), (1, .int (iI (k)))] := hl
  have hin4 : ∀ w ∈ wsX40, w ∈ wsX4_back := fun _ h => List.mem_cons_of_mem _ (List.mem_append_right _ h)
  suffices hgo : ∀ (H : Heap) (lc : List Loc), va_P D vwCl (wM cI ad F R) H → va_S A st.heap H lc → W p l e rm_X4_back st mi ar bl mth cd H lc 0 0 Q (F0 mi 0 ls []) from hgo _ _ hP va_S.rf
  clear hP
  intro H lc hP hS
  have hM := hS9.town
  have hW := hM.works
  have hK := hM.wards
  have hlaw := hM.law
  have hrd := hM.reads
  have hsp := hM.spots
  have hhi := hM.high
  have hwd := hM.wide
  have hP8 := pw8 hW
  have hen := en_bd4 hW hM.vane
  refine lv_iload_n hx hb dX4_back_0 rfl (lv_at hl 1 rfl) ?_
  refine jz_i2l C dX4_back_1 (by omega) ?_
  refine jz_lconst (z := 0) C rfl dX4_back_2 ?_
  refine lv_aload_n hx hb dX4_back_3 rfl (lv_at hl 0 rfl) ?_
  refine fg_M_readings C hin4 hE hP (v := F 24) (List.mem_of_getElem? (i := 1) rfl) dX4_back_4 rfl ?_
  refine jz_i2l C dX4_back_7 (by omega) ?_
  refine jc_S C hl.1 (jpreS hE hP) (c_X4_in k 0 (F 24) (show -9223372036854775808 ≤ k ∧ k < 9223372036854775808 from (by omega)) (show -9223372036854775808 ≤ 0 ∧ 0 < 9223372036854775808 from (by omega)) (show -9223372036854775808 ≤ (F 24) ∧ (F 24) < 9223372036854775808 from (by omega))) (va_cwS 3 C.2.2.2.2 gX4_back_X4_in rfl rfl rfl (by decide +kernel) ⟨Nat.le_of_ble_eq_true rfl, Nat.le_of_ble_eq_true rfl⟩) (As := [.long (lI (k)), .long (lI (0)), .long (lI (F 24))]) (v := .int (iI (if 0 ≤ k ∧ k ≤ (F 24) then 1 else 0))) (hn := rfl) (hst := rfl) (rest := []) (hW := Nat.le_of_ble_eq_true rfl) (hdg := dX4_back_8) (hf := ⟨Nat.le_of_ble_eq_true rfl, Nat.le_of_ble_eq_true rfl⟩) ?_
  refine jz_bool_ne (tgt := 17) C dX4_back_11 (by decide) (fun h11 => ?_) (fun h11 => ?_)
  · skip
    refine lv_aload_n hx hb dX4_back_17 rfl (lv_at hl 0 rfl) ?_
    refine lv_dup hx hb dX4_back_18 rfl ?_
    refine fg_M_readings C hin4 hE hP (v := F 24) (List.mem_of_getElem? (i := 1) rfl) dX4_back_19 rfl ?_
    refine lv_iload_n hx hb dX4_back_22 rfl (lv_at hl 1 rfl) ?_
    refine jz_isub C dX4_back_23 ?_
    refine fp_M_readings C hin4 hE hP (jDM hD) hS (List.mem_of_getElem? (i := 1) rfl) dX4_back_24 (fun H lc hP hS => ?_)
    refine lv_aload_n hx hb dX4_back_27 rfl (lv_at hl 0 rfl) ?_
    refine fg_M_readings C hin4 hE hP (v := (F 24) - k) (List.mem_of_getElem? (i := 1) rfl) dX4_back_28 rfl ?_
    have hk9 : k_X4_back F R k = ((F 24) - k, (u1 F 24 ((F 24) - k)), R) := by rw [k_X4_back, (if_pos h11)]
    exact hret _ ((u1 F 24 ((F 24) - k)), R) _ _ _ _ dX4_back_31 ⟨by rw [hk9], by rw [hk9], by rw [hk9]⟩ hP hS
  · skip
    refine jz_bipush C dX4_back_14 (by decide +kernel) ?_
    have hk9 : k_X4_back F R k = (-2, F, R) := by rw [k_X4_back, (if_neg h11)]
    exact hret _ (F, R) _ _ _ _ dX4_back_16 ⟨by rw [hk9], by rw [hk9], by rw [hk9]⟩ hP hS
def k_X4_lose (F : Nat → Int) (R : Nat → Nat → Int) (k : Int) : Int × (Nat → Int) × (Nat → Nat → Int) := if ¬ (0 ≤ k ∧ k ≤ 3) then ((-1, F, R)) else (if (R 27 (Int.toNat k)) < 0 then ((0, F, (uR R 27 (u1 (R 27) (Int.toNat k) (-1))))) else ((1, F, (uR R 27 (u1 (R 27) (Int.toNat k) (-1))))))
abbrev rm_X4_lose : Room := { frames := 2, cells := 0, slots := 0, locals := 45 }
set_option maxHeartbeats 4000000 in
set_option maxRecDepth 100000 in
theorem c_X4_lose {l : Launch} {D : va_G} {cI cS : ClassId} {ad : Nat → Nat} {F : Nat → Int} {R : Nat → Nat → Int} {A : Nat → Prop} (hD : va_D A (wM cI ad F R))  (k : Int)  (hS9 : MV F R) (hr_k : -2147483648 ≤ k ∧ k < 2147483648): JV l yX4_lose wsX4_lose rm_X4_lose (jB D cI cS (wM cI ad F R)) A [.ref (ad 0), .int (iI (k))] (fun v9 (u9 : (Nat → Int) × (Nat → Nat → Int)) => v9 = some (.int (iI (k_X4_lose F R k).1)) ∧ u9.1 = (k_X4_lose F R k).2.1 ∧ u9.2 = (k_X4_lose F R k).2.2) (fun u9 H => va_P D vwCl (wM cI ad u9.1 u9.2) H) := by
  refine JV.mkI rfl (by decide +kernel) rfl (Nat.le_of_ble_eq_true rfl) ?_
  intro p e st mi ar bl mth cd Q ls C hB hl hret
  obtain ⟨hE, hP⟩ := hB
  have hx := C.1
  have hb := C.2.1
  have hl : lv_has ls 3 [(0, .ref (ad 0)), (1, .int (iI (k)))] := hl
  have hin4 : ∀ w ∈ wsX40, w ∈ wsX4_lose := fun _ h => List.mem_cons_of_mem _ (List.mem_append_right _ h)
  suffices hgo : ∀ (H : Heap) (lc : List Loc), va_P D vwCl (wM cI ad F R) H → va_S A st.heap H lc → W p l e rm_X4_lose st mi ar bl mth cd H lc 0 0 Q (F0 mi 0 ls []) from hgo _ _ hP va_S.rf
  clear hP
  intro H lc hP hS
  have hM := hS9.town
  have hW := hM.works
  have hK := hM.wards
  have hlaw := hM.law
  have hrd := hM.reads
  have hsp := hM.spots
  have hhi := hM.high
  have hwd := hM.wide
  have hP8 := pw8 hW
  have hen := en_bd4 hW hM.vane
  refine lv_iload_n hx hb dX4_lose_0 rfl (lv_at hl 1 rfl) ?_
  refine jc_S C hl.1 (jpreS hE hP) (c_X4_noSheet k (show -2147483648 ≤ k ∧ k < 2147483648 from (by omega))) (va_cwS 1 C.2.2.2.2 gX4_lose_X4_noSheet rfl rfl rfl (by decide +kernel) ⟨Nat.le_of_ble_eq_true rfl, Nat.le_of_ble_eq_true rfl⟩) (As := [.int (iI (k))]) (v := .int (iI (if ¬ (0 ≤ k ∧ k ≤ 3) then 1 else 0))) (hn := rfl) (hst := rfl) (rest := []) (hW := Nat.le_of_ble_eq_true rfl) (hdg := dX4_lose_1) (hf := ⟨Nat.le_of_ble_eq_true rfl, Nat.le_of_ble_eq_true rfl⟩) ?_
  refine jz_bool_eq (tgt := 9) C dX4_lose_4 (by decide) (fun h4 => ?_) (fun h4 => ?_)
  · skip
    have hsz := hS9.size (k := Int.toNat k) (by omega)
    refine lv_aload_n hx hb dX4_lose_9 rfl (lv_at hl 0 rfl) ?_
    refine fg_M_sheetSize C hin4 hE hP (List.mem_of_getElem? (i := 1) rfl) dX4_lose_10 ?_
    refine lv_iload_n hx hb dX4_lose_13 rfl (lv_at hl 1 rfl) ?_
    refine fl_M_sheetSize C hE hP (v := R 27 (Int.toNat k)) dX4_lose_14 (by omega) rfl ?_
    refine jz_if_ge (tgt := 22) C dX4_lose_15 (by decide) (by omega) (fun h15 => ?_) (fun h15 => ?_)
    · skip
      refine jz_const C dX4_lose_22 ?_
      refine lv_istore_n (lv' := [(2, .int (iI (1))), (0, .ref (ad 0)), (1, .int (iI (k)))]) hx hb dX4_lose_23 rfl hl (by decide) rfl (fun ls hl => ?_)
      refine lv_aload_n hx hb dX4_lose_24 rfl (lv_at hl 1 rfl) ?_
      refine fg_M_sheetSize C hin4 hE hP (List.mem_of_getElem? (i := 1) rfl) dX4_lose_25 ?_
      refine lv_iload_n hx hb dX4_lose_28 rfl (lv_at hl 2 rfl) ?_
      refine jz_const C dX4_lose_29 ?_
      refine fs_M_sheetSize C hE hP (jDM hD) hS dX4_lose_30 (by omega) (fun H lc hP hS => ?_)
      refine lv_iload_n hx hb dX4_lose_31 rfl (lv_at hl 0 rfl) ?_
      have hk9 : k_X4_lose F R k = (1, F, (uR R 27 (u1 (R 27) (Int.toNat k) (-1)))) := by rw [k_X4_lose, (if_neg h4), (if_neg (Int.not_lt.mpr h15))]
      exact hret _ (F, (uR R 27 (u1 (R 27) (Int.toNat k) (-1)))) _ _ _ _ dX4_lose_32 ⟨by rw [hk9], by rw [hk9], by rw [hk9]⟩ hP hS
    · skip
      refine jz_const C dX4_lose_18 ?_
      refine lv_goto (tgt := 23) hx hb dX4_lose_19 (by decide) ?_
      refine lv_istore_n (lv' := [(2, .int (iI (0))), (0, .ref (ad 0)), (1, .int (iI (k)))]) hx hb dX4_lose_23 rfl hl (by decide) rfl (fun ls hl => ?_)
      refine lv_aload_n hx hb dX4_lose_24 rfl (lv_at hl 1 rfl) ?_
      refine fg_M_sheetSize C hin4 hE hP (List.mem_of_getElem? (i := 1) rfl) dX4_lose_25 ?_
      refine lv_iload_n hx hb dX4_lose_28 rfl (lv_at hl 2 rfl) ?_
      refine jz_const C dX4_lose_29 ?_
      refine fs_M_sheetSize C hE hP (jDM hD) hS dX4_lose_30 (by omega) (fun H lc hP hS => ?_)
      refine lv_iload_n hx hb dX4_lose_31 rfl (lv_at hl 0 rfl) ?_
      have hk9 : k_X4_lose F R k = (0, F, (uR R 27 (u1 (R 27) (Int.toNat k) (-1)))) := by rw [k_X4_lose, (if_neg h4), (if_pos h15)]
      exact hret _ (F, (uR R 27 (u1 (R 27) (Int.toNat k) (-1)))) _ _ _ _ dX4_lose_32 ⟨by rw [hk9], by rw [hk9], by rw [hk9]⟩ hP hS
  · skip
    refine jz_const C dX4_lose_7 ?_
    have hk9 : k_X4_lose F R k = (-1, F, R) := by rw [k_X4_lose, (if_pos h4)]
    exact hret _ (F, R) _ _ _ _ dX4_lose_8 ⟨by rw [hk9], by rw [hk9], by rw [hk9]⟩ hP hS
def k_X4_tell (F : Nat → Int) (R : Nat → Nat → Int) (k : Int) : Int × (Nat → Int) × (Nat → Nat → Int) := if ¬ (0 ≤ k ∧ k ≤ (F 7) - 1) then ((-1, F, R)) else (if (R 9 (Int.toNat k)) = 2 then (if 0 < (R 9 (Int.toNat k)) then (if (R 9 (Int.toNat k)) = 2 then (if (R 9 (Int.toNat k)) = 0 then ((R 10 (Int.toNat k), (u1 (u1 (u1 (u1 F 31 ((31 * ((F 31))) + 3)) 31 ((31 * (((31 * ((F 31))) + 3))) + 2)) 31 ((31 * (((31 * (((31 * ((F 31))) + 3))) + 2))) + 1)) 31 ((31 * (((31 * (((31 * (((31 * ((F 31))) + 3))) + 2))) + 1))) + 1)), R)) else (if (R 9 (Int.toNat k)) = 1 then (((R 10 (Int.toNat k)) + 100, (u1 (u1 (u1 (u1 F 31 ((31 * ((F 31))) + 3)) 31 ((31 * (((31 * ((F 31))) + 3))) + 2)) 31 ((31 * (((31 * (((31 * ((F 31))) + 3))) + 2))) + 1)) 31 ((31 * (((31 * (((31 * (((31 * ((F 31))) + 3))) + 2))) + 1))) + 1)), R)) else (((2 * (R 10 (Int.toNat k))) + 100, (u1 (u1 (u1 (u1 F 31 ((31 * ((F 31))) + 3)) 31 ((31 * (((31 * ((F 31))) + 3))) + 2)) 31 ((31 * (((31 * (((31 * ((F 31))) + 3))) + 2))) + 1)) 31 ((31 * (((31 * (((31 * (((31 * ((F 31))) + 3))) + 2))) + 1))) + 1)), R)))) else (if (R 9 (Int.toNat k)) = 0 then ((R 10 (Int.toNat k), (u1 (u1 (u1 F 31 ((31 * ((F 31))) + 3)) 31 ((31 * (((31 * ((F 31))) + 3))) + 2)) 31 ((31 * (((31 * (((31 * ((F 31))) + 3))) + 2))) + 1)), R)) else (if (R 9 (Int.toNat k)) = 1 then (((R 10 (Int.toNat k)) + 100, (u1 (u1 (u1 F 31 ((31 * ((F 31))) + 3)) 31 ((31 * (((31 * ((F 31))) + 3))) + 2)) 31 ((31 * (((31 * (((31 * ((F 31))) + 3))) + 2))) + 1)), R)) else (((2 * (R 10 (Int.toNat k))) + 100, (u1 (u1 (u1 F 31 ((31 * ((F 31))) + 3)) 31 ((31 * (((31 * ((F 31))) + 3))) + 2)) 31 ((31 * (((31 * (((31 * ((F 31))) + 3))) + 2))) + 1)), R))))) else (if (R 9 (Int.toNat k)) = 2 then (if (R 9 (Int.toNat k)) = 0 then ((R 10 (Int.toNat k), (u1 (u1 (u1 F 31 ((31 * ((F 31))) + 3)) 31 ((31 * (((31 * ((F 31))) + 3))) + 1)) 31 ((31 * (((31 * (((31 * ((F 31))) + 3))) + 1))) + 1)), R)) else (if (R 9 (Int.toNat k)) = 1 then (((R 10 (Int.toNat k)) + 100, (u1 (u1 (u1 F 31 ((31 * ((F 31))) + 3)) 31 ((31 * (((31 * ((F 31))) + 3))) + 1)) 31 ((31 * (((31 * (((31 * ((F 31))) + 3))) + 1))) + 1)), R)) else (((2 * (R 10 (Int.toNat k))) + 100, (u1 (u1 (u1 F 31 ((31 * ((F 31))) + 3)) 31 ((31 * (((31 * ((F 31))) + 3))) + 1)) 31 ((31 * (((31 * (((31 * ((F 31))) + 3))) + 1))) + 1)), R)))) else (if (R 9 (Int.toNat k)) = 0 then ((R 10 (Int.toNat k), (u1 (u1 F 31 ((31 * ((F 31))) + 3)) 31 ((31 * (((31 * ((F 31))) + 3))) + 1)), R)) else (if (R 9 (Int.toNat k)) = 1 then (((R 10 (Int.toNat k)) + 100, (u1 (u1 F 31 ((31 * ((F 31))) + 3)) 31 ((31 * (((31 * ((F 31))) + 3))) + 1)), R)) else (((2 * (R 10 (Int.toNat k))) + 100, (u1 (u1 F 31 ((31 * ((F 31))) + 3)) 31 ((31 * (((31 * ((F 31))) + 3))) + 1)), R)))))) else (if 0 < (R 9 (Int.toNat k)) then (if (R 9 (Int.toNat k)) = 2 then (if (R 9 (Int.toNat k)) = 0 then ((R 10 (Int.toNat k), (u1 (u1 (u1 F 31 ((31 * ((F 31))) + 2)) 31 ((31 * (((31 * ((F 31))) + 2))) + 1)) 31 ((31 * (((31 * (((31 * ((F 31))) + 2))) + 1))) + 1)), R)) else (if (R 9 (Int.toNat k)) = 1 then (((R 10 (Int.toNat k)) + 100, (u1 (u1 (u1 F 31 ((31 * ((F 31))) + 2)) 31 ((31 * (((31 * ((F 31))) + 2))) + 1)) 31 ((31 * (((31 * (((31 * ((F 31))) + 2))) + 1))) + 1)), R)) else (((2 * (R 10 (Int.toNat k))) + 100, (u1 (u1 (u1 F 31 ((31 * ((F 31))) + 2)) 31 ((31 * (((31 * ((F 31))) + 2))) + 1)) 31 ((31 * (((31 * (((31 * ((F 31))) + 2))) + 1))) + 1)), R)))) else (if (R 9 (Int.toNat k)) = 0 then ((R 10 (Int.toNat k), (u1 (u1 F 31 ((31 * ((F 31))) + 2)) 31 ((31 * (((31 * ((F 31))) + 2))) + 1)), R)) else (if (R 9 (Int.toNat k)) = 1 then (((R 10 (Int.toNat k)) + 100, (u1 (u1 F 31 ((31 * ((F 31))) + 2)) 31 ((31 * (((31 * ((F 31))) + 2))) + 1)), R)) else (((2 * (R 10 (Int.toNat k))) + 100, (u1 (u1 F 31 ((31 * ((F 31))) + 2)) 31 ((31 * (((31 * ((F 31))) + 2))) + 1)), R))))) else (if (R 9 (Int.toNat k)) = 2 then (if (R 9 (Int.toNat k)) = 0 then ((R 10 (Int.toNat k), (u1 (u1 F 31 ((31 * ((F 31))) + 1)) 31 ((31 * (((31 * ((F 31))) + 1))) + 1)), R)) else (if (R 9 (Int.toNat k)) = 1 then (((R 10 (Int.toNat k)) + 100, (u1 (u1 F 31 ((31 * ((F 31))) + 1)) 31 ((31 * (((31 * ((F 31))) + 1))) + 1)), R)) else (((2 * (R 10 (Int.toNat k))) + 100, (u1 (u1 F 31 ((31 * ((F 31))) + 1)) 31 ((31 * (((31 * ((F 31))) + 1))) + 1)), R)))) else (if (R 9 (Int.toNat k)) = 0 then ((R 10 (Int.toNat k), (u1 F 31 ((31 * ((F 31))) + 1)), R)) else (if (R 9 (Int.toNat k)) = 1 then (((R 10 (Int.toNat k)) + 100, (u1 F 31 ((31 * ((F 31))) + 1)), R)) else (((2 * (R 10 (Int.toNat k))) + 100, (u1 F 31 ((31 * ((F 31))) + 1)), R)))))))
abbrev rm_X4_tell : Room := { frames := 2, cells := 0, slots := 0, locals := 46 }
set_option maxHeartbeats 4000000 in
set_option maxRecDepth 100000 in
theorem c_X4_tell {l : Launch} {D : va_G} {cI cS : ClassId} {ad : Nat → Nat} {F : Nat → Int} {R : Nat → Nat → Int} {A : Nat → Prop} (hD : va_D A (wM cI ad F R))  (k : Int)  (hS9 : MV F R) (hr_k : -2147483648 ≤ k ∧ k < 2147483648): JV l yX4_tell wsX4_tell rm_X4_tell (jB D cI cS (wM cI ad F R)) A [.ref (ad 0), .int (iI (k))] (fun v9 (u9 : (Nat → Int) × (Nat → Nat → Int)) => v9 = some (.int (iI (k_X4_tell F R k).1)) ∧ u9.1 = (k_X4_tell F R k).2.1 ∧ u9.2 = (k_X4_tell F R k).2.2) (fun u9 H => va_P D vwCl (wM cI ad u9.1 u9.2) H) := by
  refine JV.mkI rfl (by decide +kernel) rfl (Nat.le_of_ble_eq_true rfl) ?_
  intro p e st mi ar bl mth cd Q ls C hB hl hret
  obtain ⟨hE, hP⟩ := hB
  have hx := C.1
  have hb := C.2.1
  have hl : lv_has ls 4 [(0, .ref (ad 0)), (1, .int (iI (k)))] := hl
  have hin4 : ∀ w ∈ wsX40, w ∈ wsX4_tell := fun _ h => List.mem_cons_of_mem _ (List.mem_append_right _ h)
  suffices hgo : ∀ (H : Heap) (lc : List Loc), va_P D vwCl (wM cI ad F R) H → va_S A st.heap H lc → W p l e rm_X4_tell st mi ar bl mth cd H lc 0 0 Q (F0 mi 0 ls []) from hgo _ _ hP va_S.rf
  clear hP
  intro H lc hP hS
  have hM := hS9.town
  have hW := hM.works
  have hK := hM.wards
  have hlaw := hM.law
  have hrd := hM.reads
  have hsp := hM.spots
  have hhi := hM.high
  have hwd := hM.wide
  have hP8 := pw8 hW
  have hen := en_bd4 hW hM.vane
  refine lv_aload_n hx hb dX4_tell_0 rfl (lv_at hl 0 rfl) ?_
  refine lv_iload_n hx hb dX4_tell_1 rfl (lv_at hl 1 rfl) ?_
  refine jc_V C hl.1 (jpreV hE hP 4 0 rfl rfl) (c_X4_noWard k hM.wards (show -2147483648 ≤ k ∧ k < 2147483648 from (by omega))) (cwV 1 C.2.2.2.2 gX4_tell_X4_noWard rfl rfl rfl (by decide +kernel) ⟨Nat.le_of_ble_eq_true rfl, Nat.le_of_ble_eq_true rfl⟩) (As := [.int (iI (k))]) (v := .int (iI (if ¬ (0 ≤ k ∧ k ≤ (F 7) - 1) then 1 else 0))) (hn := rfl) (hst := rfl) (rest := []) (hW := Nat.le_of_ble_eq_true rfl) (hdg := dX4_tell_2) (hf := ⟨Nat.le_of_ble_eq_true rfl, Nat.le_of_ble_eq_true rfl⟩) ?_
  refine jz_bool_eq (tgt := 10) C dX4_tell_5 (by decide) (fun h5 => ?_) (fun h5 => ?_)
  · skip
    refine lv_aload_n hx hb dX4_tell_10 rfl (lv_at hl 0 rfl) ?_
    refine fg_M_kindOf C hin4 hE hP (List.mem_of_getElem? (i := 1) rfl) dX4_tell_11 ?_
    refine lv_iload_n hx hb dX4_tell_14 rfl (lv_at hl 1 rfl) ?_
    refine fl_M_kindOf C hE hP (v := R 9 (Int.toNat k)) dX4_tell_15 (by omega) rfl ?_
    refine lv_istore_n (lv' := [(2, .int (iI (R 9 (Int.toNat k)))), (0, .ref (ad 0)), (1, .int (iI (k)))]) hx hb dX4_tell_16 rfl hl (by decide) rfl (fun ls hl => ?_)
    have hkd := hM.kind (Int.toNat k) (by omega)
    refine lv_iload_n hx hb dX4_tell_17 rfl (lv_at hl 0 rfl) ?_
    refine jz_const C dX4_tell_18 ?_
    refine jz_icmp_ne (tgt := 27) C dX4_tell_19 (by decide) (by omega) (fun h19 => ?_) (fun h19 => ?_)
    · skip
      refine lv_iload_n hx hb dX4_tell_27 rfl (lv_at hl 0 rfl) ?_
      refine jz_if_le (tgt := 36) C dX4_tell_28 (by decide) (by omega) (fun h28 => ?_) (fun h28 => ?_)
      · skip
        refine lv_aload_n hx hb dX4_tell_36 rfl (lv_at hl 1 rfl) ?_
        refine jz_const C dX4_tell_37 ?_
        refine jw_V C hl.1 (jpreV hE hP 4 0 rfl rfl) (c_X4_traced (A := A) (jDM hD) 1 ) (cwV 1 C.2.2.2.2 gX4_tell_X4_traced rfl rfl rfl (by decide +kernel) ⟨Nat.le_of_ble_eq_true rfl, Nat.le_of_ble_eq_true rfl⟩) (As := [.int (iI (1))]) (hn := rfl) (hst := rfl) (rest := []) (hW := Nat.le_of_ble_eq_true rfl) (hdg := dX4_tell_38) (hf := ⟨Nat.le_of_ble_eq_true rfl, Nat.le_of_ble_eq_true rfl⟩) hS (fun v9 uq38 H lc hq9 hP hS => ?_)
        obtain rfl : v9 = none := hq9
        have hP : va_P D vwCl (wM cI ad (u1 F 31 ((31 * ((F 31))) + 1)) R) H := hP
        refine lv_iload_n hx hb dX4_tell_41 rfl (lv_at hl 0 rfl) ?_
        refine jz_const C dX4_tell_42 ?_
        refine jz_icmp_ne (tgt := 51) C dX4_tell_43 (by decide) (by omega) (fun h43 => ?_) (fun h43 => ?_)
        · skip
          refine lv_aload_n hx hb dX4_tell_51 rfl (lv_at hl 1 rfl) ?_
          refine fg_M_noseOf C hin4 hE hP (List.mem_of_getElem? (i := 2) rfl) dX4_tell_52 ?_
          refine lv_iload_n hx hb dX4_tell_55 rfl (lv_at hl 2 rfl) ?_
          refine fl_M_noseOf C hE hP (v := R 10 (Int.toNat k)) dX4_tell_56 (by omega) rfl ?_
          refine lv_istore_n (lv' := [(3, .int (iI (R 10 (Int.toNat k)))), (2, .int (iI (R 9 (Int.toNat k)))), (0, .ref (ad 0)), (1, .int (iI (k)))]) hx hb dX4_tell_57 rfl hl (by decide) rfl (fun ls hl => ?_)
          refine lv_iload_n hx hb dX4_tell_58 rfl (lv_at hl 1 rfl) ?_
          refine jz_if_ne (tgt := 66) C dX4_tell_59 (by decide) (by omega) (fun h59 => ?_) (fun h59 => ?_)
          · skip
            refine lv_iload_n hx hb dX4_tell_66 rfl (lv_at hl 1 rfl) ?_
            refine jz_const C dX4_tell_67 ?_
            refine jz_icmp_ne (tgt := 78) C dX4_tell_68 (by decide) (by omega) (fun h68 => ?_) (fun h68 => ?_)
            · skip
              refine jz_const C dX4_tell_78 ?_
              refine lv_iload_n hx hb dX4_tell_79 rfl (lv_at hl 0 rfl) ?_
              refine jz_imul C dX4_tell_80 ?_
              refine jz_bipush C dX4_tell_81 (by decide +kernel) ?_
              refine jz_iadd C dX4_tell_83 ?_
              have hk9 : k_X4_tell F R k = ((2 * (R 10 (Int.toNat k))) + 100, (u1 F 31 ((31 * ((F 31))) + 1)), R) := by rw [k_X4_tell, (if_neg h5), (if_neg (h19)), (if_neg (Int.not_lt.mpr h28)), (if_neg (h43)), (if_neg (h59)), (if_neg (h68))]
              exact hret _ ((u1 F 31 ((31 * ((F 31))) + 1)), R) _ _ _ _ dX4_tell_84 ⟨by rw [hk9], by rw [hk9], by rw [hk9]⟩ hP hS
            · skip
              refine lv_iload_n hx hb dX4_tell_71 rfl (lv_at hl 0 rfl) ?_
              refine jz_bipush C dX4_tell_72 (by decide +kernel) ?_
              refine jz_iadd C dX4_tell_74 ?_
              refine lv_goto (tgt := 84) hx hb dX4_tell_75 (by decide) ?_
              have hk9 : k_X4_tell F R k = ((R 10 (Int.toNat k)) + 100, (u1 F 31 ((31 * ((F 31))) + 1)), R) := by rw [k_X4_tell, (if_neg h5), (if_neg (h19)), (if_neg (Int.not_lt.mpr h28)), (if_neg (h43)), (if_neg (h59)), (if_pos h68)]
              exact hret _ ((u1 F 31 ((31 * ((F 31))) + 1)), R) _ _ _ _ dX4_tell_84 ⟨by rw [hk9], by rw [hk9], by rw [hk9]⟩ hP hS
          · skip
            refine lv_iload_n hx hb dX4_tell_62 rfl (lv_at hl 0 rfl) ?_
            refine lv_goto (tgt := 84) hx hb dX4_tell_63 (by decide) ?_
            have hk9 : k_X4_tell F R k = (R 10 (Int.toNat k), (u1 F 31 ((31 * ((F 31))) + 1)), R) := by rw [k_X4_tell, (if_neg h5), (if_neg (h19)), (if_neg (Int.not_lt.mpr h28)), (if_neg (h43)), (if_pos h59)]
            exact hret _ ((u1 F 31 ((31 * ((F 31))) + 1)), R) _ _ _ _ dX4_tell_84 ⟨by rw [hk9], by rw [hk9], by rw [hk9]⟩ hP hS
        · skip
          refine lv_aload_n hx hb dX4_tell_46 rfl (lv_at hl 1 rfl) ?_
          refine jz_const C dX4_tell_47 ?_
          refine jw_V C hl.1 (jpreV hE hP 4 0 rfl rfl) (c_X4_traced (A := A) (jDM hD) 1 ) (cwV 1 C.2.2.2.2 gX4_tell_X4_traced rfl rfl rfl (by decide +kernel) ⟨Nat.le_of_ble_eq_true rfl, Nat.le_of_ble_eq_true rfl⟩) (As := [.int (iI (1))]) (hn := rfl) (hst := rfl) (rest := []) (hW := Nat.le_of_ble_eq_true rfl) (hdg := dX4_tell_48) (hf := ⟨Nat.le_of_ble_eq_true rfl, Nat.le_of_ble_eq_true rfl⟩) hS (fun v9 uq48 H lc hq9 hP hS => ?_)
          obtain rfl : v9 = none := hq9
          have hP : va_P D vwCl (wM cI ad (u1 (u1 F 31 ((31 * ((F 31))) + 1)) 31 ((31 * (((31 * ((F 31))) + 1))) + 1)) R) H := hP
          refine lv_aload_n hx hb dX4_tell_51 rfl (lv_at hl 1 rfl) ?_
          refine fg_M_noseOf C hin4 hE hP (List.mem_of_getElem? (i := 2) rfl) dX4_tell_52 ?_
          refine lv_iload_n hx hb dX4_tell_55 rfl (lv_at hl 2 rfl) ?_
          refine fl_M_noseOf C hE hP (v := R 10 (Int.toNat k)) dX4_tell_56 (by omega) rfl ?_
          refine lv_istore_n (lv' := [(3, .int (iI (R 10 (Int.toNat k)))), (2, .int (iI (R 9 (Int.toNat k)))), (0, .ref (ad 0)), (1, .int (iI (k)))]) hx hb dX4_tell_57 rfl hl (by decide) rfl (fun ls hl => ?_)
          refine lv_iload_n hx hb dX4_tell_58 rfl (lv_at hl 1 rfl) ?_
          refine jz_if_ne (tgt := 66) C dX4_tell_59 (by decide) (by omega) (fun h59 => ?_) (fun h59 => ?_)
          · skip
            refine lv_iload_n hx hb dX4_tell_66 rfl (lv_at hl 1 rfl) ?_
            refine jz_const C dX4_tell_67 ?_
            refine jz_icmp_ne (tgt := 78) C dX4_tell_68 (by decide) (by omega) (fun h68 => ?_) (fun h68 => ?_)
            · skip
              refine jz_const C dX4_tell_78 ?_
              refine lv_iload_n hx hb dX4_tell_79 rfl (lv_at hl 0 rfl) ?_
              refine jz_imul C dX4_tell_80 ?_
              refine jz_bipush C dX4_tell_81 (by decide +kernel) ?_
              refine jz_iadd C dX4_tell_83 ?_
              have hk9 : k_X4_tell F R k = ((2 * (R 10 (Int.toNat k))) + 100, (u1 (u1 F 31 ((31 * ((F 31))) + 1)) 31 ((31 * (((31 * ((F 31))) + 1))) + 1)), R) := by rw [k_X4_tell, (if_neg h5), (if_neg (h19)), (if_neg (Int.not_lt.mpr h28)), (if_pos h43), (if_neg (h59)), (if_neg (h68))]
              exact hret _ ((u1 (u1 F 31 ((31 * ((F 31))) + 1)) 31 ((31 * (((31 * ((F 31))) + 1))) + 1)), R) _ _ _ _ dX4_tell_84 ⟨by rw [hk9], by rw [hk9], by rw [hk9]⟩ hP hS
            · skip
              refine lv_iload_n hx hb dX4_tell_71 rfl (lv_at hl 0 rfl) ?_
              refine jz_bipush C dX4_tell_72 (by decide +kernel) ?_
              refine jz_iadd C dX4_tell_74 ?_
              refine lv_goto (tgt := 84) hx hb dX4_tell_75 (by decide) ?_
              have hk9 : k_X4_tell F R k = ((R 10 (Int.toNat k)) + 100, (u1 (u1 F 31 ((31 * ((F 31))) + 1)) 31 ((31 * (((31 * ((F 31))) + 1))) + 1)), R) := by rw [k_X4_tell, (if_neg h5), (if_neg (h19)), (if_neg (Int.not_lt.mpr h28)), (if_pos h43), (if_neg (h59)), (if_pos h68)]
              exact hret _ ((u1 (u1 F 31 ((31 * ((F 31))) + 1)) 31 ((31 * (((31 * ((F 31))) + 1))) + 1)), R) _ _ _ _ dX4_tell_84 ⟨by rw [hk9], by rw [hk9], by rw [hk9]⟩ hP hS
          · skip
            refine lv_iload_n hx hb dX4_tell_62 rfl (lv_at hl 0 rfl) ?_
            refine lv_goto (tgt := 84) hx hb dX4_tell_63 (by decide) ?_
            have hk9 : k_X4_tell F R k = (R 10 (Int.toNat k), (u1 (u1 F 31 ((31 * ((F 31))) + 1)) 31 ((31 * (((31 * ((F 31))) + 1))) + 1)), R) := by rw [k_X4_tell, (if_neg h5), (if_neg (h19)), (if_neg (Int.not_lt.mpr h28)), (if_pos h43), (if_pos h59)]
            exact hret _ ((u1 (u1 F 31 ((31 * ((F 31))) + 1)) 31 ((31 * (((31 * ((F 31))) + 1))) + 1)), R) _ _ _ _ dX4_tell_84 ⟨by rw [hk9], by rw [hk9], by rw [hk9]⟩ hP hS
      · skip
        refine lv_aload_n hx hb dX4_tell_31 rfl (lv_at hl 1 rfl) ?_
        refine jz_const C dX4_tell_32 ?_
        refine jw_V C hl.1 (jpreV hE hP 4 0 rfl rfl) (c_X4_traced (A := A) (jDM hD) 2 ) (cwV 1 C.2.2.2.2 gX4_tell_X4_traced rfl rfl rfl (by decide +kernel) ⟨Nat.le_of_ble_eq_true rfl, Nat.le_of_ble_eq_true rfl⟩) (As := [.int (iI (2))]) (hn := rfl) (hst := rfl) (rest := []) (hW := Nat.le_of_ble_eq_true rfl) (hdg := dX4_tell_33) (hf := ⟨Nat.le_of_ble_eq_true rfl, Nat.le_of_ble_eq_true rfl⟩) hS (fun v9 uq33 H lc hq9 hP hS => ?_)
        obtain rfl : v9 = none := hq9
        have hP : va_P D vwCl (wM cI ad (u1 F 31 ((31 * ((F 31))) + 2)) R) H := hP
        refine lv_aload_n hx hb dX4_tell_36 rfl (lv_at hl 1 rfl) ?_
        refine jz_const C dX4_tell_37 ?_
        refine jw_V C hl.1 (jpreV hE hP 4 0 rfl rfl) (c_X4_traced (A := A) (jDM hD) 1 ) (cwV 1 C.2.2.2.2 gX4_tell_X4_traced rfl rfl rfl (by decide +kernel) ⟨Nat.le_of_ble_eq_true rfl, Nat.le_of_ble_eq_true rfl⟩) (As := [.int (iI (1))]) (hn := rfl) (hst := rfl) (rest := []) (hW := Nat.le_of_ble_eq_true rfl) (hdg := dX4_tell_38) (hf := ⟨Nat.le_of_ble_eq_true rfl, Nat.le_of_ble_eq_true rfl⟩) hS (fun v9 uq38 H lc hq9 hP hS => ?_)
        obtain rfl : v9 = none := hq9
        have hP : va_P D vwCl (wM cI ad (u1 (u1 F 31 ((31 * ((F 31))) + 2)) 31 ((31 * (((31 * ((F 31))) + 2))) + 1)) R) H := hP
        refine lv_iload_n hx hb dX4_tell_41 rfl (lv_at hl 0 rfl) ?_
        refine jz_const C dX4_tell_42 ?_
        refine jz_icmp_ne (tgt := 51) C dX4_tell_43 (by decide) (by omega) (fun h43 => ?_) (fun h43 => ?_)
        · skip
          refine lv_aload_n hx hb dX4_tell_51 rfl (lv_at hl 1 rfl) ?_
          refine fg_M_noseOf C hin4 hE hP (List.mem_of_getElem? (i := 2) rfl) dX4_tell_52 ?_
          refine lv_iload_n hx hb dX4_tell_55 rfl (lv_at hl 2 rfl) ?_
          refine fl_M_noseOf C hE hP (v := R 10 (Int.toNat k)) dX4_tell_56 (by omega) rfl ?_
          refine lv_istore_n (lv' := [(3, .int (iI (R 10 (Int.toNat k)))), (2, .int (iI (R 9 (Int.toNat k)))), (0, .ref (ad 0)), (1, .int (iI (k)))]) hx hb dX4_tell_57 rfl hl (by decide) rfl (fun ls hl => ?_)
          refine lv_iload_n hx hb dX4_tell_58 rfl (lv_at hl 1 rfl) ?_
          refine jz_if_ne (tgt := 66) C dX4_tell_59 (by decide) (by omega) (fun h59 => ?_) (fun h59 => ?_)
          · skip
            refine lv_iload_n hx hb dX4_tell_66 rfl (lv_at hl 1 rfl) ?_
            refine jz_const C dX4_tell_67 ?_
            refine jz_icmp_ne (tgt := 78) C dX4_tell_68 (by decide) (by omega) (fun h68 => ?_) (fun h68 => ?_)
            · skip
              refine jz_const C dX4_tell_78 ?_
              refine lv_iload_n hx hb dX4_tell_79 rfl (lv_at hl 0 rfl) ?_
              refine jz_imul C dX4_tell_80 ?_
              refine jz_bipush C dX4_tell_81 (by decide +kernel) ?_
              refine jz_iadd C dX4_tell_83 ?_
              have hk9 : k_X4_tell F R k = ((2 * (R 10 (Int.toNat k))) + 100, (u1 (u1 F 31 ((31 * ((F 31))) + 2)) 31 ((31 * (((31 * ((F 31))) + 2))) + 1)), R) := by rw [k_X4_tell, (if_neg h5), (if_neg (h19)), (if_pos h28), (if_neg (h43)), (if_neg (h59)), (if_neg (h68))]
              exact hret _ ((u1 (u1 F 31 ((31 * ((F 31))) + 2)) 31 ((31 * (((31 * ((F 31))) + 2))) + 1)), R) _ _ _ _ dX4_tell_84 ⟨by rw [hk9], by rw [hk9], by rw [hk9]⟩ hP hS
            · skip
              refine lv_iload_n hx hb dX4_tell_71 rfl (lv_at hl 0 rfl) ?_
              refine jz_bipush C dX4_tell_72 (by decide +kernel) ?_
              refine jz_iadd C dX4_tell_74 ?_
              refine lv_goto (tgt := 84) hx hb dX4_tell_75 (by decide) ?_
              have hk9 : k_X4_tell F R k = ((R 10 (Int.toNat k)) + 100, (u1 (u1 F 31 ((31 * ((F 31))) + 2)) 31 ((31 * (((31 * ((F 31))) + 2))) + 1)), R) := by rw [k_X4_tell, (if_neg h5), (if_neg (h19)), (if_pos h28), (if_neg (h43)), (if_neg (h59)), (if_pos h68)]
              exact hret _ ((u1 (u1 F 31 ((31 * ((F 31))) + 2)) 31 ((31 * (((31 * ((F 31))) + 2))) + 1)), R) _ _ _ _ dX4_tell_84 ⟨by rw [hk9], by rw [hk9], by rw [hk9]⟩ hP hS
          · skip
            refine lv_iload_n hx hb dX4_tell_62 rfl (lv_at hl 0 rfl) ?_
            refine lv_goto (tgt := 84) hx hb dX4_tell_63 (by decide) ?_
            have hk9 : k_X4_tell F R k = (R 10 (Int.toNat k), (u1 (u1 F 31 ((31 * ((F 31))) + 2)) 31 ((31 * (((31 * ((F 31))) + 2))) + 1)), R) := by rw [k_X4_tell, (if_neg h5), (if_neg (h19)), (if_pos h28), (if_neg (h43)), (if_pos h59)]
            exact hret _ ((u1 (u1 F 31 ((31 * ((F 31))) + 2)) 31 ((31 * (((31 * ((F 31))) + 2))) + 1)), R) _ _ _ _ dX4_tell_84 ⟨by rw [hk9], by rw [hk9], by rw [hk9]⟩ hP hS
        · skip
          refine lv_aload_n hx hb dX4_tell_46 rfl (lv_at hl 1 rfl) ?_
          refine jz_const C dX4_tell_47 ?_
          refine jw_V C hl.1 (jpreV hE hP 4 0 rfl rfl) (c_X4_traced (A := A) (jDM hD) 1 ) (cwV 1 C.2.2.2.2 gX4_tell_X4_traced rfl rfl rfl (by decide +kernel) ⟨Nat.le_of_ble_eq_true rfl, Nat.le_of_ble_eq_true rfl⟩) (As := [.int (iI (1))]) (hn := rfl) (hst := rfl) (rest := []) (hW := Nat.le_of_ble_eq_true rfl) (hdg := dX4_tell_48) (hf := ⟨Nat.le_of_ble_eq_true rfl, Nat.le_of_ble_eq_true rfl⟩) hS (fun v9 uq48 H lc hq9 hP hS => ?_)
          obtain rfl : v9 = none := hq9
          have hP : va_P D vwCl (wM cI ad (u1 (u1 (u1 F 31 ((31 * ((F 31))) + 2)) 31 ((31 * (((31 * ((F 31))) + 2))) + 1)) 31 ((31 * (((31 * (((31 * ((F 31))) + 2))) + 1))) + 1)) R) H := hP
          refine lv_aload_n hx hb dX4_tell_51 rfl (lv_at hl 1 rfl) ?_
          refine fg_M_noseOf C hin4 hE hP (List.mem_of_getElem? (i := 2) rfl) dX4_tell_52 ?_
          refine lv_iload_n hx hb dX4_tell_55 rfl (lv_at hl 2 rfl) ?_
          refine fl_M_noseOf C hE hP (v := R 10 (Int.toNat k)) dX4_tell_56 (by omega) rfl ?_
          refine lv_istore_n (lv' := [(3, .int (iI (R 10 (Int.toNat k)))), (2, .int (iI (R 9 (Int.toNat k)))), (0, .ref (ad 0)), (1, .int (iI (k)))]) hx hb dX4_tell_57 rfl hl (by decide) rfl (fun ls hl => ?_)
          refine lv_iload_n hx hb dX4_tell_58 rfl (lv_at hl 1 rfl) ?_
          refine jz_if_ne (tgt := 66) C dX4_tell_59 (by decide) (by omega) (fun h59 => ?_) (fun h59 => ?_)
          · skip
            refine lv_iload_n hx hb dX4_tell_66 rfl (lv_at hl 1 rfl) ?_
            refine jz_const C dX4_tell_67 ?_
            refine jz_icmp_ne (tgt := 78) C dX4_tell_68 (by decide) (by omega) (fun h68 => ?_) (fun h68 => ?_)
            · skip
              refine jz_const C dX4_tell_78 ?_
              refine lv_iload_n hx hb dX4_tell_79 rfl (lv_at hl 0 rfl) ?_
              refine jz_imul C dX4_tell_80 ?_
              refine jz_bipush C dX4_tell_81 (by decide +kernel) ?_
              refine jz_iadd C dX4_tell_83 ?_
              have hk9 : k_X4_tell F R k = ((2 * (R 10 (Int.toNat k))) + 100, (u1 (u1 (u1 F 31 ((31 * ((F 31))) + 2)) 31 ((31 * (((31 * ((F 31))) + 2))) + 1)) 31 ((31 * (((31 * (((31 * ((F 31))) + 2))) + 1))) + 1)), R) := by rw [k_X4_tell, (if_neg h5), (if_neg (h19)), (if_pos h28), (if_pos h43), (if_neg (h59)), (if_neg (h68))]
              exact hret _ ((u1 (u1 (u1 F 31 ((31 * ((F 31))) + 2)) 31 ((31 * (((31 * ((F 31))) + 2))) + 1)) 31 ((31 * (((31 * (((31 * ((F 31))) + 2))) + 1))) + 1)), R) _ _ _ _ dX4_tell_84 ⟨by rw [hk9], by rw [hk9], by rw [hk9]⟩ hP hS
            · skip
              refine lv_iload_n hx hb dX4_tell_71 rfl (lv_at hl 0 rfl) ?_
              refine jz_bipush C dX4_tell_72 (by decide +kernel) ?_
              refine jz_iadd C dX4_tell_74 ?_
              refine lv_goto (tgt := 84) hx hb dX4_tell_75 (by decide) ?_
              have hk9 : k_X4_tell F R k = ((R 10 (Int.toNat k)) + 100, (u1 (u1 (u1 F 31 ((31 * ((F 31))) + 2)) 31 ((31 * (((31 * ((F 31))) + 2))) + 1)) 31 ((31 * (((31 * (((31 * ((F 31))) + 2))) + 1))) + 1)), R) := by rw [k_X4_tell, (if_neg h5), (if_neg (h19)), (if_pos h28), (if_pos h43), (if_neg (h59)), (if_pos h68)]
              exact hret _ ((u1 (u1 (u1 F 31 ((31 * ((F 31))) + 2)) 31 ((31 * (((31 * ((F 31))) + 2))) + 1)) 31 ((31 * (((31 * (((31 * ((F 31))) + 2))) + 1))) + 1)), R) _ _ _ _ dX4_tell_84 ⟨by rw [hk9], by rw [hk9], by rw [hk9]⟩ hP hS
          · skip
            refine lv_iload_n hx hb dX4_tell_62 rfl (lv_at hl 0 rfl) ?_
            refine lv_goto (tgt := 84) hx hb dX4_tell_63 (by decide) ?_
            have hk9 : k_X4_tell F R k = (R 10 (Int.toNat k), (u1 (u1 (u1 F 31 ((31 * ((F 31))) + 2)) 31 ((31 * (((31 * ((F 31))) + 2))) + 1)) 31 ((31 * (((31 * (((31 * ((F 31))) + 2))) + 1))) + 1)), R) := by rw [k_X4_tell, (if_neg h5), (if_neg (h19)), (if_pos h28), (if_pos h43), (if_pos h59)]
            exact hret _ ((u1 (u1 (u1 F 31 ((31 * ((F 31))) + 2)) 31 ((31 * (((31 * ((F 31))) + 2))) + 1)) 31 ((31 * (((31 * (((31 * ((F 31))) + 2))) + 1))) + 1)), R) _ _ _ _ dX4_tell_84 ⟨by rw [hk9], by rw [hk9], by rw [hk9]⟩ hP hS
    · skip
      refine lv_aload_n hx hb dX4_tell_22 rfl (lv_at hl 1 rfl) ?_
      refine jz_const C dX4_tell_23 ?_
      refine jw_V C hl.1 (jpreV hE hP 4 0 rfl rfl) (c_X4_traced (A := A) (jDM hD) 3 ) (cwV 1 C.2.2.2.2 gX4_tell_X4_traced rfl rfl rfl (by decide +kernel) ⟨Nat.le_of_ble_eq_true rfl, Nat.le_of_ble_eq_true rfl⟩) (As := [.int (iI (3))]) (hn := rfl) (hst := rfl) (rest := []) (hW := Nat.le_of_ble_eq_true rfl) (hdg := dX4_tell_24) (hf := ⟨Nat.le_of_ble_eq_true rfl, Nat.le_of_ble_eq_true rfl⟩) hS (fun v9 uq24 H lc hq9 hP hS => ?_)
      obtain rfl : v9 = none := hq9
      have hP : va_P D vwCl (wM cI ad (u1 F 31 ((31 * ((F 31))) + 3)) R) H := hP
      refine lv_iload_n hx hb dX4_tell_27 rfl (lv_at hl 0 rfl) ?_
      refine jz_if_le (tgt := 36) C dX4_tell_28 (by decide) (by omega) (fun h28 => ?_) (fun h28 => ?_)
      · skip
        refine lv_aload_n hx hb dX4_tell_36 rfl (lv_at hl 1 rfl) ?_
        refine jz_const C dX4_tell_37 ?_
        refine jw_V C hl.1 (jpreV hE hP 4 0 rfl rfl) (c_X4_traced (A := A) (jDM hD) 1 ) (cwV 1 C.2.2.2.2 gX4_tell_X4_traced rfl rfl rfl (by decide +kernel) ⟨Nat.le_of_ble_eq_true rfl, Nat.le_of_ble_eq_true rfl⟩) (As := [.int (iI (1))]) (hn := rfl) (hst := rfl) (rest := []) (hW := Nat.le_of_ble_eq_true rfl) (hdg := dX4_tell_38) (hf := ⟨Nat.le_of_ble_eq_true rfl, Nat.le_of_ble_eq_true rfl⟩) hS (fun v9 uq38 H lc hq9 hP hS => ?_)
        obtain rfl : v9 = none := hq9
        have hP : va_P D vwCl (wM cI ad (u1 (u1 F 31 ((31 * ((F 31))) + 3)) 31 ((31 * (((31 * ((F 31))) + 3))) + 1)) R) H := hP
        refine lv_iload_n hx hb dX4_tell_41 rfl (lv_at hl 0 rfl) ?_
        refine jz_const C dX4_tell_42 ?_
        refine jz_icmp_ne (tgt := 51) C dX4_tell_43 (by decide) (by omega) (fun h43 => ?_) (fun h43 => ?_)
        · skip
          refine lv_aload_n hx hb dX4_tell_51 rfl (lv_at hl 1 rfl) ?_
          refine fg_M_noseOf C hin4 hE hP (List.mem_of_getElem? (i := 2) rfl) dX4_tell_52 ?_
          refine lv_iload_n hx hb dX4_tell_55 rfl (lv_at hl 2 rfl) ?_
          refine fl_M_noseOf C hE hP (v := R 10 (Int.toNat k)) dX4_tell_56 (by omega) rfl ?_
          refine lv_istore_n (lv' := [(3, .int (iI (R 10 (Int.toNat k)))), (2, .int (iI (R 9 (Int.toNat k)))), (0, .ref (ad 0)), (1, .int (iI (k)))]) hx hb dX4_tell_57 rfl hl (by decide) rfl (fun ls hl => ?_)
          refine lv_iload_n hx hb dX4_tell_58 rfl (lv_at hl 1 rfl) ?_
          refine jz_if_ne (tgt := 66) C dX4_tell_59 (by decide) (by omega) (fun h59 => ?_) (fun h59 => ?_)
          · skip
            refine lv_iload_n hx hb dX4_tell_66 rfl (lv_at hl 1 rfl) ?_
            refine jz_const C dX4_tell_67 ?_
            refine jz_icmp_ne (tgt := 78) C dX4_tell_68 (by decide) (by omega) (fun h68 => ?_) (fun h68 => ?_)
            · skip
              refine jz_const C dX4_tell_78 ?_
              refine lv_iload_n hx hb dX4_tell_79 rfl (lv_at hl 0 rfl) ?_
              refine jz_imul C dX4_tell_80 ?_
              refine jz_bipush C dX4_tell_81 (by decide +kernel) ?_
              refine jz_iadd C dX4_tell_83 ?_
              have hk9 : k_X4_tell F R k = ((2 * (R 10 (Int.toNat k))) + 100, (u1 (u1 F 31 ((31 * ((F 31))) + 3)) 31 ((31 * (((31 * ((F 31))) + 3))) + 1)), R) := by rw [k_X4_tell, (if_neg h5), (if_pos h19), (if_neg (Int.not_lt.mpr h28)), (if_neg (h43)), (if_neg (h59)), (if_neg (h68))]
              exact hret _ ((u1 (u1 F 31 ((31 * ((F 31))) + 3)) 31 ((31 * (((31 * ((F 31))) + 3))) + 1)), R) _ _ _ _ dX4_tell_84 ⟨by rw [hk9], by rw [hk9], by rw [hk9]⟩ hP hS
            · skip
              refine lv_iload_n hx hb dX4_tell_71 rfl (lv_at hl 0 rfl) ?_
              refine jz_bipush C dX4_tell_72 (by decide +kernel) ?_
              refine jz_iadd C dX4_tell_74 ?_
              refine lv_goto (tgt := 84) hx hb dX4_tell_75 (by decide) ?_
              have hk9 : k_X4_tell F R k = ((R 10 (Int.toNat k)) + 100, (u1 (u1 F 31 ((31 * ((F 31))) + 3)) 31 ((31 * (((31 * ((F 31))) + 3))) + 1)), R) := by rw [k_X4_tell, (if_neg h5), (if_pos h19), (if_neg (Int.not_lt.mpr h28)), (if_neg (h43)), (if_neg (h59)), (if_pos h68)]
              exact hret _ ((u1 (u1 F 31 ((31 * ((F 31))) + 3)) 31 ((31 * (((31 * ((F 31))) + 3))) + 1)), R) _ _ _ _ dX4_tell_84 ⟨by rw [hk9], by rw [hk9], by rw [hk9]⟩ hP hS
          · skip
            refine lv_iload_n hx hb dX4_tell_62 rfl (lv_at hl 0 rfl) ?_
            refine lv_goto (tgt := 84) hx hb dX4_tell_63 (by decide) ?_
            have hk9 : k_X4_tell F R k = (R 10 (Int.toNat k), (u1 (u1 F 31 ((31 * ((F 31))) + 3)) 31 ((31 * (((31 * ((F 31))) + 3))) + 1)), R) := by rw [k_X4_tell, (if_neg h5), (if_pos h19), (if_neg (Int.not_lt.mpr h28)), (if_neg (h43)), (if_pos h59)]
            exact hret _ ((u1 (u1 F 31 ((31 * ((F 31))) + 3)) 31 ((31 * (((31 * ((F 31))) + 3))) + 1)), R) _ _ _ _ dX4_tell_84 ⟨by rw [hk9], by rw [hk9], by rw [hk9]⟩ hP hS
        · skip
          refine lv_aload_n hx hb dX4_tell_46 rfl (lv_at hl 1 rfl) ?_
          refine jz_const C dX4_tell_47 ?_
          refine jw_V C hl.1 (jpreV hE hP 4 0 rfl rfl) (c_X4_traced (A := A) (jDM hD) 1 ) (cwV 1 C.2.2.2.2 gX4_tell_X4_traced rfl rfl rfl (by decide +kernel) ⟨Nat.le_of_ble_eq_true rfl, Nat.le_of_ble_eq_true rfl⟩) (As := [.int (iI (1))]) (hn := rfl) (hst := rfl) (rest := []) (hW := Nat.le_of_ble_eq_true rfl) (hdg := dX4_tell_48) (hf := ⟨Nat.le_of_ble_eq_true rfl, Nat.le_of_ble_eq_true rfl⟩) hS (fun v9 uq48 H lc hq9 hP hS => ?_)
          obtain rfl : v9 = none := hq9
          have hP : va_P D vwCl (wM cI ad (u1 (u1 (u1 F 31 ((31 * ((F 31))) + 3)) 31 ((31 * (((31 * ((F 31))) + 3))) + 1)) 31 ((31 * (((31 * (((31 * ((F 31))) + 3))) + 1))) + 1)) R) H := hP
          refine lv_aload_n hx hb dX4_tell_51 rfl (lv_at hl 1 rfl) ?_
          refine fg_M_noseOf C hin4 hE hP (List.mem_of_getElem? (i := 2) rfl) dX4_tell_52 ?_
          refine lv_iload_n hx hb dX4_tell_55 rfl (lv_at hl 2 rfl) ?_
          refine fl_M_noseOf C hE hP (v := R 10 (Int.toNat k)) dX4_tell_56 (by omega) rfl ?_
          refine lv_istore_n (lv' := [(3, .int (iI (R 10 (Int.toNat k)))), (2, .int (iI (R 9 (Int.toNat k)))), (0, .ref (ad 0)), (1, .int (iI (k)))]) hx hb dX4_tell_57 rfl hl (by decide) rfl (fun ls hl => ?_)
          refine lv_iload_n hx hb dX4_tell_58 rfl (lv_at hl 1 rfl) ?_
          refine jz_if_ne (tgt := 66) C dX4_tell_59 (by decide) (by omega) (fun h59 => ?_) (fun h59 => ?_)
          · skip
            refine lv_iload_n hx hb dX4_tell_66 rfl (lv_at hl 1 rfl) ?_
            refine jz_const C dX4_tell_67 ?_
            refine jz_icmp_ne (tgt := 78) C dX4_tell_68 (by decide) (by omega) (fun h68 => ?_) (fun h68 => ?_)
            · skip
              refine jz_const C dX4_tell_78 ?_
              refine lv_iload_n hx hb dX4_tell_79 rfl (lv_at hl 0 rfl) ?_
              refine jz_imul C dX4_tell_80 ?_
              refine jz_bipush C dX4_tell_81 (by decide +kernel) ?_
              refine jz_iadd C dX4_tell_83 ?_
              have hk9 : k_X4_tell F R k = ((2 * (R 10 (Int.toNat k))) + 100, (u1 (u1 (u1 F 31 ((31 * ((F 31))) + 3)) 31 ((31 * (((31 * ((F 31))) + 3))) + 1)) 31 ((31 * (((31 * (((31 * ((F 31))) + 3))) + 1))) + 1)), R) := by rw [k_X4_tell, (if_neg h5), (if_pos h19), (if_neg (Int.not_lt.mpr h28)), (if_pos h43), (if_neg (h59)), (if_neg (h68))]
              exact hret _ ((u1 (u1 (u1 F 31 ((31 * ((F 31))) + 3)) 31 ((31 * (((31 * ((F 31))) + 3))) + 1)) 31 ((31 * (((31 * (((31 * ((F 31))) + 3))) + 1))) + 1)), R) _ _ _ _ dX4_tell_84 ⟨by rw [hk9], by rw [hk9], by rw [hk9]⟩ hP hS
            · skip
              refine lv_iload_n hx hb dX4_tell_71 rfl (lv_at hl 0 rfl) ?_
              refine jz_bipush C dX4_tell_72 (by decide +kernel) ?_
              refine jz_iadd C dX4_tell_74 ?_
              refine lv_goto (tgt := 84) hx hb dX4_tell_75 (by decide) ?_
              have hk9 : k_X4_tell F R k = ((R 10 (Int.toNat k)) + 100, (u1 (u1 (u1 F 31 ((31 * ((F 31))) + 3)) 31 ((31 * (((31 * ((F 31))) + 3))) + 1)) 31 ((31 * (((31 * (((31 * ((F 31))) + 3))) + 1))) + 1)), R) := by rw [k_X4_tell, (if_neg h5), (if_pos h19), (if_neg (Int.not_lt.mpr h28)), (if_pos h43), (if_neg (h59)), (if_pos h68)]
              exact hret _ ((u1 (u1 (u1 F 31 ((31 * ((F 31))) + 3)) 31 ((31 * (((31 * ((F 31))) + 3))) + 1)) 31 ((31 * (((31 * (((31 * ((F 31))) + 3))) + 1))) + 1)), R) _ _ _ _ dX4_tell_84 ⟨by rw [hk9], by rw [hk9], by rw [hk9]⟩ hP hS
          · skip
            refine lv_iload_n hx hb dX4_tell_62 rfl (lv_at hl 0 rfl) ?_
            refine lv_goto (tgt := 84) hx hb dX4_tell_63 (by decide) ?_
            have hk9 : k_X4_tell F R k = (R 10 (Int.toNat k), (u1 (u1 (u1 F 31 ((31 * ((F 31))) + 3)) 31 ((31 * (((31 * ((F 31))) + 3))) + 1)) 31 ((31 * (((31 * (((31 * ((F 31))) + 3))) + 1))) + 1)), R) := by rw [k_X4_tell, (if_neg h5), (if_pos h19), (if_neg (Int.not_lt.mpr h28)), (if_pos h43), (if_pos h59)]
            exact hret _ ((u1 (u1 (u1 F 31 ((31 * ((F 31))) + 3)) 31 ((31 * (((31 * ((F 31))) + 3))) + 1)) 31 ((31 * (((31 * (((31 * ((F 31))) + 3))) + 1))) + 1)), R) _ _ _ _ dX4_tell_84 ⟨by rw [hk9], by rw [hk9], by rw [hk9]⟩ hP hS
      · skip
        refine lv_aload_n hx hb dX4_tell_31 rfl (lv_at hl 1 rfl) ?_
        refine jz_const C dX4_tell_32 ?_
        refine jw_V C hl.1 (jpreV hE hP 4 0 rfl rfl) (c_X4_traced (A := A) (jDM hD) 2 ) (cwV 1 C.2.2.2.2 gX4_tell_X4_traced rfl rfl rfl (by decide +kernel) ⟨Nat.le_of_ble_eq_true rfl, Nat.le_of_ble_eq_true rfl⟩) (As := [.int (iI (2))]) (hn := rfl) (hst := rfl) (rest := []) (hW := Nat.le_of_ble_eq_true rfl) (hdg := dX4_tell_33) (hf := ⟨Nat.le_of_ble_eq_true rfl, Nat.le_of_ble_eq_true rfl⟩) hS (fun v9 uq33 H lc hq9 hP hS => ?_)
        obtain rfl : v9 = none := hq9
        have hP : va_P D vwCl (wM cI ad (u1 (u1 F 31 ((31 * ((F 31))) + 3)) 31 ((31 * (((31 * ((F 31))) + 3))) + 2)) R) H := hP
        refine lv_aload_n hx hb dX4_tell_36 rfl (lv_at hl 1 rfl) ?_
        refine jz_const C dX4_tell_37 ?_
        refine jw_V C hl.1 (jpreV hE hP 4 0 rfl rfl) (c_X4_traced (A := A) (jDM hD) 1 ) (cwV 1 C.2.2.2.2 gX4_tell_X4_traced rfl rfl rfl (by decide +kernel) ⟨Nat.le_of_ble_eq_true rfl, Nat.le_of_ble_eq_true rfl⟩) (As := [.int (iI (1))]) (hn := rfl) (hst := rfl) (rest := []) (hW := Nat.le_of_ble_eq_true rfl) (hdg := dX4_tell_38) (hf := ⟨Nat.le_of_ble_eq_true rfl, Nat.le_of_ble_eq_true rfl⟩) hS (fun v9 uq38 H lc hq9 hP hS => ?_)
        obtain rfl : v9 = none := hq9
        have hP : va_P D vwCl (wM cI ad (u1 (u1 (u1 F 31 ((31 * ((F 31))) + 3)) 31 ((31 * (((31 * ((F 31))) + 3))) + 2)) 31 ((31 * (((31 * (((31 * ((F 31))) + 3))) + 2))) + 1)) R) H := hP
        refine lv_iload_n hx hb dX4_tell_41 rfl (lv_at hl 0 rfl) ?_
        refine jz_const C dX4_tell_42 ?_
        refine jz_icmp_ne (tgt := 51) C dX4_tell_43 (by decide) (by omega) (fun h43 => ?_) (fun h43 => ?_)
        · skip
          refine lv_aload_n hx hb dX4_tell_51 rfl (lv_at hl 1 rfl) ?_
          refine fg_M_noseOf C hin4 hE hP (List.mem_of_getElem? (i := 2) rfl) dX4_tell_52 ?_
          refine lv_iload_n hx hb dX4_tell_55 rfl (lv_at hl 2 rfl) ?_
          refine fl_M_noseOf C hE hP (v := R 10 (Int.toNat k)) dX4_tell_56 (by omega) rfl ?_
          refine lv_istore_n (lv' := [(3, .int (iI (R 10 (Int.toNat k)))), (2, .int (iI (R 9 (Int.toNat k)))), (0, .ref (ad 0)), (1, .int (iI (k)))]) hx hb dX4_tell_57 rfl hl (by decide) rfl (fun ls hl => ?_)
          refine lv_iload_n hx hb dX4_tell_58 rfl (lv_at hl 1 rfl) ?_
          refine jz_if_ne (tgt := 66) C dX4_tell_59 (by decide) (by omega) (fun h59 => ?_) (fun h59 => ?_)
          · skip
            refine lv_iload_n hx hb dX4_tell_66 rfl (lv_at hl 1 rfl) ?_
            refine jz_const C dX4_tell_67 ?_
            refine jz_icmp_ne (tgt := 78) C dX4_tell_68 (by decide) (by omega) (fun h68 => ?_) (fun h68 => ?_)
            · skip
              refine jz_const C dX4_tell_78 ?_
              refine lv_iload_n hx hb dX4_tell_79 rfl (lv_at hl 0 rfl) ?_
              refine jz_imul C dX4_tell_80 ?_
              refine jz_bipush C dX4_tell_81 (by decide +kernel) ?_
              refine jz_iadd C dX4_tell_83 ?_
              have hk9 : k_X4_tell F R k = ((2 * (R 10 (Int.toNat k))) + 100, (u1 (u1 (u1 F 31 ((31 * ((F 31))) + 3)) 31 ((31 * (((31 * ((F 31))) + 3))) + 2)) 31 ((31 * (((31 * (((31 * ((F 31))) + 3))) + 2))) + 1)), R) := by rw [k_X4_tell, (if_neg h5), (if_pos h19), (if_pos h28), (if_neg (h43)), (if_neg (h59)), (if_neg (h68))]
              exact hret _ ((u1 (u1 (u1 F 31 ((31 * ((F 31))) + 3)) 31 ((31 * (((31 * ((F 31))) + 3))) + 2)) 31 ((31 * (((31 * (((31 * ((F 31))) + 3))) + 2))) + 1)), R) _ _ _ _ dX4_tell_84 ⟨by rw [hk9], by rw [hk9], by rw [hk9]⟩ hP hS
            · skip
              refine lv_iload_n hx hb dX4_tell_71 rfl (lv_at hl 0 rfl) ?_
              refine jz_bipush C dX4_tell_72 (by decide +kernel) ?_
              refine jz_iadd C dX4_tell_74 ?_
              refine lv_goto (tgt := 84) hx hb dX4_tell_75 (by decide) ?_
              have hk9 : k_X4_tell F R k = ((R 10 (Int.toNat k)) + 100, (u1 (u1 (u1 F 31 ((31 * ((F 31))) + 3)) 31 ((31 * (((31 * ((F 31))) + 3))) + 2)) 31 ((31 * (((31 * (((31 * ((F 31))) + 3))) + 2))) + 1)), R) := by rw [k_X4_tell, (if_neg h5), (if_pos h19), (if_pos h28), (if_neg (h43)), (if_neg (h59)), (if_pos h68)]
              exact hret _ ((u1 (u1 (u1 F 31 ((31 * ((F 31))) + 3)) 31 ((31 * (((31 * ((F 31))) + 3))) + 2)) 31 ((31 * (((31 * (((31 * ((F 31))) + 3))) + 2))) + 1)), R) _ _ _ _ dX4_tell_84 ⟨by rw [hk9], by rw [hk9], by rw [hk9]⟩ hP hS
          · skip
            refine lv_iload_n hx hb dX4_tell_62 rfl (lv_at hl 0 rfl) ?_
            refine lv_goto (tgt := 84) hx hb dX4_tell_63 (by decide) ?_
            have hk9 : k_X4_tell F R k = (R 10 (Int.toNat k), (u1 (u1 (u1 F 31 ((31 * ((F 31))) + 3)) 31 ((31 * (((31 * ((F 31))) + 3))) + 2)) 31 ((31 * (((31 * (((31 * ((F 31))) + 3))) + 2))) + 1)), R) := by rw [k_X4_tell, (if_neg h5), (if_pos h19), (if_pos h28), (if_neg (h43)), (if_pos h59)]
            exact hret _ ((u1 (u1 (u1 F 31 ((31 * ((F 31))) + 3)) 31 ((31 * (((31 * ((F 31))) + 3))) + 2)) 31 ((31 * (((31 * (((31 * ((F 31))) + 3))) + 2))) + 1)), R) _ _ _ _ dX4_tell_84 ⟨by rw [hk9], by rw [hk9], by rw [hk9]⟩ hP hS
        · skip
          refine lv_aload_n hx hb dX4_tell_46 rfl (lv_at hl 1 rfl) ?_
          refine jz_const C dX4_tell_47 ?_
          refine jw_V C hl.1 (jpreV hE hP 4 0 rfl rfl) (c_X4_traced (A := A) (jDM hD) 1 ) (cwV 1 C.2.2.2.2 gX4_tell_X4_traced rfl rfl rfl (by decide +kernel) ⟨Nat.le_of_ble_eq_true rfl, Nat.le_of_ble_eq_true rfl⟩) (As := [.int (iI (1))]) (hn := rfl) (hst := rfl) (rest := []) (hW := Nat.le_of_ble_eq_true rfl) (hdg := dX4_tell_48) (hf := ⟨Nat.le_of_ble_eq_true rfl, Nat.le_of_ble_eq_true rfl⟩) hS (fun v9 uq48 H lc hq9 hP hS => ?_)
          obtain rfl : v9 = none := hq9
          have hP : va_P D vwCl (wM cI ad (u1 (u1 (u1 (u1 F 31 ((31 * ((F 31))) + 3)) 31 ((31 * (((31 * ((F 31))) + 3))) + 2)) 31 ((31 * (((31 * (((31 * ((F 31))) + 3))) + 2))) + 1)) 31 ((31 * (((31 * (((31 * (((31 * ((F 31))) + 3))) + 2))) + 1))) + 1)) R) H := hP
          refine lv_aload_n hx hb dX4_tell_51 rfl (lv_at hl 1 rfl) ?_
          refine fg_M_noseOf C hin4 hE hP (List.mem_of_getElem? (i := 2) rfl) dX4_tell_52 ?_
          refine lv_iload_n hx hb dX4_tell_55 rfl (lv_at hl 2 rfl) ?_
          refine fl_M_noseOf C hE hP (v := R 10 (Int.toNat k)) dX4_tell_56 (by omega) rfl ?_
          refine lv_istore_n (lv' := [(3, .int (iI (R 10 (Int.toNat k)))), (2, .int (iI (R 9 (Int.toNat k)))), (0, .ref (ad 0)), (1, .int (iI (k)))]) hx hb dX4_tell_57 rfl hl (by decide) rfl (fun ls hl => ?_)
          refine lv_iload_n hx hb dX4_tell_58 rfl (lv_at hl 1 rfl) ?_
          refine jz_if_ne (tgt := 66) C dX4_tell_59 (by decide) (by omega) (fun h59 => ?_) (fun h59 => ?_)
          · skip
            refine lv_iload_n hx hb dX4_tell_66 rfl (lv_at hl 1 rfl) ?_
            refine jz_const C dX4_tell_67 ?_
            refine jz_icmp_ne (tgt := 78) C dX4_tell_68 (by decide) (by omega) (fun h68 => ?_) (fun h68 => ?_)
            · skip
              refine jz_const C dX4_tell_78 ?_
              refine lv_iload_n hx hb dX4_tell_79 rfl (lv_at hl 0 rfl) ?_
              refine jz_imul C dX4_tell_80 ?_
              refine jz_bipush C dX4_tell_81 (by decide +kernel) ?_
              refine jz_iadd C dX4_tell_83 ?_
              have hk9 : k_X4_tell F R k = ((2 * (R 10 (Int.toNat k))) + 100, (u1 (u1 (u1 (u1 F 31 ((31 * ((F 31))) + 3)) 31 ((31 * (((31 * ((F 31))) + 3))) + 2)) 31 ((31 * (((31 * (((31 * ((F 31))) + 3))) + 2))) + 1)) 31 ((31 * (((31 * (((31 * (((31 * ((F 31))) + 3))) + 2))) + 1))) + 1)), R) := by rw [k_X4_tell, (if_neg h5), (if_pos h19), (if_pos h28), (if_pos h43), (if_neg (h59)), (if_neg (h68))]
              exact hret _ ((u1 (u1 (u1 (u1 F 31 ((31 * ((F 31))) + 3)) 31 ((31 * (((31 * ((F 31))) + 3))) + 2)) 31 ((31 * (((31 * (((31 * ((F 31))) + 3))) + 2))) + 1)) 31 ((31 * (((31 * (((31 * (((31 * ((F 31))) + 3))) + 2))) + 1))) + 1)), R) _ _ _ _ dX4_tell_84 ⟨by rw [hk9], by rw [hk9], by rw [hk9]⟩ hP hS
            · skip
              refine lv_iload_n hx hb dX4_tell_71 rfl (lv_at hl 0 rfl) ?_
              refine jz_bipush C dX4_tell_72 (by decide +kernel) ?_
              refine jz_iadd C dX4_tell_74 ?_
              refine lv_goto (tgt := 84) hx hb dX4_tell_75 (by decide) ?_
              have hk9 : k_X4_tell F R k = ((R 10 (Int.toNat k)) + 100, (u1 (u1 (u1 (u1 F 31 ((31 * ((F 31))) + 3)) 31 ((31 * (((31 * ((F 31))) + 3))) + 2)) 31 ((31 * (((31 * (((31 * ((F 31))) + 3))) + 2))) + 1)) 31 ((31 * (((31 * (((31 * (((31 * ((F 31))) + 3))) + 2))) + 1))) + 1)), R) := by rw [k_X4_tell, (if_neg h5), (if_pos h19), (if_pos h28), (if_pos h43), (if_neg (h59)), (if_pos h68)]
              exact hret _ ((u1 (u1 (u1 (u1 F 31 ((31 * ((F 31))) + 3)) 31 ((31 * (((31 * ((F 31))) + 3))) + 2)) 31 ((31 * (((31 * (((31 * ((F 31))) + 3))) + 2))) + 1)) 31 ((31 * (((31 * (((31 * (((31 * ((F 31))) + 3))) + 2))) + 1))) + 1)), R) _ _ _ _ dX4_tell_84 ⟨by rw [hk9], by rw [hk9], by rw [hk9]⟩ hP hS
          · skip
            refine lv_iload_n hx hb dX4_tell_62 rfl (lv_at hl 0 rfl) ?_
            refine lv_goto (tgt := 84) hx hb dX4_tell_63 (by decide) ?_
            have hk9 : k_X4_tell F R k = (R 10 (Int.toNat k), (u1 (u1 (u1 (u1 F 31 ((31 * ((F 31))) + 3)) 31 ((31 * (((31 * ((F 31))) + 3))) + 2)) 31 ((31 * (((31 * (((31 * ((F 31))) + 3))) + 2))) + 1)) 31 ((31 * (((31 * (((31 * (((31 * ((F 31))) + 3))) + 2))) + 1))) + 1)), R) := by rw [k_X4_tell, (if_neg h5), (if_pos h19), (if_pos h28), (if_pos h43), (if_pos h59)]
            exact hret _ ((u1 (u1 (u1 (u1 F 31 ((31 * ((F 31))) + 3)) 31 ((31 * (((31 * ((F 31))) + 3))) + 2)) 31 ((31 * (((31 * (((31 * ((F 31))) + 3))) + 2))) + 1)) 31 ((31 * (((31 * (((31 * (((31 * ((F 31))) + 3))) + 2))) + 1))) + 1)), R) _ _ _ _ dX4_tell_84 ⟨by rw [hk9], by rw [hk9], by rw [hk9]⟩ hP hS
  · skip
    refine jz_const C dX4_tell_8 ?_
    have hk9 : k_X4_tell F R k = (-1, F, R) := by rw [k_X4_tell, (if_pos h5)]
    exact hret _ (F, R) _ _ _ _ dX4_tell_9 ⟨by rw [hk9], by rw [hk9], by rw [hk9]⟩ hP hS
def k_X4_woo (F : Nat → Int) (R : Nat → Nat → Int) (k : Int) : Int × (Nat → Int) × (Nat → Nat → Int) := if ¬ (0 ≤ k ∧ k ≤ (F 7) - 1) then ((-1, F, R)) else (if (R 9 (Int.toNat k)) = 2 then (if (R 9 (Int.toNat k)) = 2 then ((60, (u1 F 31 ((31 * ((F 31))) + 5)), R)) else ((k, (u1 F 31 ((31 * ((F 31))) + 5)), R))) else (if (R 9 (Int.toNat k)) = 2 then ((60, (u1 F 31 ((31 * ((F 31))) + 4)), R)) else ((k, (u1 F 31 ((31 * ((F 31))) + 4)), R))))
abbrev rm_X4_woo : Room := { frames := 2, cells := 0, slots := 0, locals := 46 }
set_option maxHeartbeats 4000000 in
set_option maxRecDepth 100000 in
theorem c_X4_woo {l : Launch} {D : va_G} {cI cS : ClassId} {ad : Nat → Nat} {F : Nat → Int} {R : Nat → Nat → Int} {A : Nat → Prop} (hD : va_D A (wM cI ad F R))  (k : Int)  (hS9 : MV F R) (hr_k : -2147483648 ≤ k ∧ k < 2147483648): JV l yX4_woo wsX4_woo rm_X4_woo (jB D cI cS (wM cI ad F R)) A [.ref (ad 0), .int (iI (k))] (fun v9 (u9 : (Nat → Int) × (Nat → Nat → Int)) => v9 = some (.int (iI (k_X4_woo F R k).1)) ∧ u9.1 = (k_X4_woo F R k).2.1 ∧ u9.2 = (k_X4_woo F R k).2.2) (fun u9 H => va_P D vwCl (wM cI ad u9.1 u9.2) H) := by
  refine JV.mkI rfl (by decide +kernel) rfl (Nat.le_of_ble_eq_true rfl) ?_
  intro p e st mi ar bl mth cd Q ls C hB hl hret
  obtain ⟨hE, hP⟩ := hB
  have hx := C.1
  have hb := C.2.1
  have hl : lv_has ls 2 [(0, .ref (ad 0)), (1, .int (iI (k)))] := hl
  have hin4 : ∀ w ∈ wsX40, w ∈ wsX4_woo := fun _ h => List.mem_cons_of_mem _ (List.mem_append_right _ h)
  suffices hgo : ∀ (H : Heap) (lc : List Loc), va_P D vwCl (wM cI ad F R) H → va_S A st.heap H lc → W p l e rm_X4_woo st mi ar bl mth cd H lc 0 0 Q (F0 mi 0 ls []) from hgo _ _ hP va_S.rf
  clear hP
  intro H lc hP hS
  have hM := hS9.town
  have hW := hM.works
  have hK := hM.wards
  have hlaw := hM.law
  have hrd := hM.reads
  have hsp := hM.spots
  have hhi := hM.high
  have hwd := hM.wide
  have hP8 := pw8 hW
  have hen := en_bd4 hW hM.vane
  refine lv_aload_n hx hb dX4_woo_0 rfl (lv_at hl 0 rfl) ?_
  refine lv_iload_n hx hb dX4_woo_1 rfl (lv_at hl 1 rfl) ?_
  refine jc_V C hl.1 (jpreV hE hP 4 0 rfl rfl) (c_X4_noWard k hM.wards (show -2147483648 ≤ k ∧ k < 2147483648 from (by omega))) (cwV 1 C.2.2.2.2 gX4_woo_X4_noWard rfl rfl rfl (by decide +kernel) ⟨Nat.le_of_ble_eq_true rfl, Nat.le_of_ble_eq_true rfl⟩) (As := [.int (iI (k))]) (v := .int (iI (if ¬ (0 ≤ k ∧ k ≤ (F 7) - 1) then 1 else 0))) (hn := rfl) (hst := rfl) (rest := []) (hW := Nat.le_of_ble_eq_true rfl) (hdg := dX4_woo_2) (hf := ⟨Nat.le_of_ble_eq_true rfl, Nat.le_of_ble_eq_true rfl⟩) ?_
  refine jz_bool_eq (tgt := 10) C dX4_woo_5 (by decide) (fun h5 => ?_) (fun h5 => ?_)
  · skip
    have hkd := hM.kind (Int.toNat k) (by omega)
    refine lv_aload_n hx hb dX4_woo_10 rfl (lv_at hl 0 rfl) ?_
    refine lv_aload_n hx hb dX4_woo_11 rfl (lv_at hl 0 rfl) ?_
    refine fg_M_kindOf C hin4 hE hP (List.mem_of_getElem? (i := 1) rfl) dX4_woo_12 ?_
    refine lv_iload_n hx hb dX4_woo_15 rfl (lv_at hl 1 rfl) ?_
    refine fl_M_kindOf C hE hP (v := R 9 (Int.toNat k)) dX4_woo_16 (by omega) rfl ?_
    refine jz_const C dX4_woo_17 ?_
    refine jz_icmp_ne (tgt := 25) C dX4_woo_18 (by decide) (by omega) (fun h18 => ?_) (fun h18 => ?_)
    · skip
      refine jz_const C dX4_woo_25 ?_
      refine jw_V C hl.1 (jpreV hE hP 4 0 rfl rfl) (c_X4_traced (A := A) (jDM hD) 4 ) (cwV 1 C.2.2.2.2 gX4_woo_X4_traced rfl rfl rfl (by decide +kernel) ⟨Nat.le_of_ble_eq_true rfl, Nat.le_of_ble_eq_true rfl⟩) (As := [.int (iI (4))]) (hn := rfl) (hst := rfl) (rest := []) (hW := Nat.le_of_ble_eq_true rfl) (hdg := dX4_woo_26) (hf := ⟨Nat.le_of_ble_eq_true rfl, Nat.le_of_ble_eq_true rfl⟩) hS (fun v9 uq26 H lc hq9 hP hS => ?_)
      obtain rfl : v9 = none := hq9
      have hP : va_P D vwCl (wM cI ad (u1 F 31 ((31 * ((F 31))) + 4)) R) H := hP
      refine lv_aload_n hx hb dX4_woo_29 rfl (lv_at hl 0 rfl) ?_
      refine fg_M_kindOf C hin4 hE hP (List.mem_of_getElem? (i := 1) rfl) dX4_woo_30 ?_
      refine lv_iload_n hx hb dX4_woo_33 rfl (lv_at hl 1 rfl) ?_
      refine fl_M_kindOf C hE hP (v := R 9 (Int.toNat k)) dX4_woo_34 (by omega) rfl ?_
      refine jz_const C dX4_woo_35 ?_
      refine jz_icmp_ne (tgt := 44) C dX4_woo_36 (by decide) (by omega) (fun h36 => ?_) (fun h36 => ?_)
      · skip
        refine lv_iload_n hx hb dX4_woo_44 rfl (lv_at hl 1 rfl) ?_
        have hk9 : k_X4_woo F R k = (k, (u1 F 31 ((31 * ((F 31))) + 4)), R) := by rw [k_X4_woo, (if_neg h5), (if_neg (h18)), (if_neg (h36))]
        exact hret _ ((u1 F 31 ((31 * ((F 31))) + 4)), R) _ _ _ _ dX4_woo_45 ⟨by rw [hk9], by rw [hk9], by rw [hk9]⟩ hP hS
      · skip
        refine jz_bipush C dX4_woo_39 (by decide +kernel) ?_
        refine lv_goto (tgt := 45) hx hb dX4_woo_41 (by decide) ?_
        have hk9 : k_X4_woo F R k = (60, (u1 F 31 ((31 * ((F 31))) + 4)), R) := by rw [k_X4_woo, (if_neg h5), (if_neg (h18)), (if_pos h36)]
        exact hret _ ((u1 F 31 ((31 * ((F 31))) + 4)), R) _ _ _ _ dX4_woo_45 ⟨by rw [hk9], by rw [hk9], by rw [hk9]⟩ hP hS
    · skip
      refine jz_const C dX4_woo_21 ?_
      refine lv_goto (tgt := 26) hx hb dX4_woo_22 (by decide) ?_
      refine jw_V C hl.1 (jpreV hE hP 4 0 rfl rfl) (c_X4_traced (A := A) (jDM hD) 5 ) (cwV 1 C.2.2.2.2 gX4_woo_X4_traced rfl rfl rfl (by decide +kernel) ⟨Nat.le_of_ble_eq_true rfl, Nat.le_of_ble_eq_true rfl⟩) (As := [.int (iI (5))]) (hn := rfl) (hst := rfl) (rest := []) (hW := Nat.le_of_ble_eq_true rfl) (hdg := dX4_woo_26) (hf := ⟨Nat.le_of_ble_eq_true rfl, Nat.le_of_ble_eq_true rfl⟩) hS (fun v9 uq26 H lc hq9 hP hS => ?_)
      obtain rfl : v9 = none := hq9
      have hP : va_P D vwCl (wM cI ad (u1 F 31 ((31 * ((F 31))) + 5)) R) H := hP
      refine lv_aload_n hx hb dX4_woo_29 rfl (lv_at hl 0 rfl) ?_
      refine fg_M_kindOf C hin4 hE hP (List.mem_of_getElem? (i := 1) rfl) dX4_woo_30 ?_
      refine lv_iload_n hx hb dX4_woo_33 rfl (lv_at hl 1 rfl) ?_
      refine fl_M_kindOf C hE hP (v := R 9 (Int.toNat k)) dX4_woo_34 (by omega) rfl ?_
      refine jz_const C dX4_woo_35 ?_
      refine jz_icmp_ne (tgt := 44) C dX4_woo_36 (by decide) (by omega) (fun h36 => ?_) (fun h36 => ?_)
      · skip
        refine lv_iload_n hx hb dX4_woo_44 rfl (lv_at hl 1 rfl) ?_
        have hk9 : k_X4_woo F R k = (k, (u1 F 31 ((31 * ((F 31))) + 5)), R) := by rw [k_X4_woo, (if_neg h5), (if_pos h18), (if_neg (h36))]
        exact hret _ ((u1 F 31 ((31 * ((F 31))) + 5)), R) _ _ _ _ dX4_woo_45 ⟨by rw [hk9], by rw [hk9], by rw [hk9]⟩ hP hS
      · skip
        refine jz_bipush C dX4_woo_39 (by decide +kernel) ?_
        refine lv_goto (tgt := 45) hx hb dX4_woo_41 (by decide) ?_
        have hk9 : k_X4_woo F R k = (60, (u1 F 31 ((31 * ((F 31))) + 5)), R) := by rw [k_X4_woo, (if_neg h5), (if_pos h18), (if_pos h36)]
        exact hret _ ((u1 F 31 ((31 * ((F 31))) + 5)), R) _ _ _ _ dX4_woo_45 ⟨by rw [hk9], by rw [hk9], by rw [hk9]⟩ hP hS
  · skip
    refine jz_const C dX4_woo_8 ?_
    have hk9 : k_X4_woo F R k = (-1, F, R) := by rw [k_X4_woo, (if_pos h5)]
    exact hret _ (F, R) _ _ _ _ dX4_woo_9 ⟨by rw [hk9], by rw [hk9], by rw [hk9]⟩ hP hS
def k_X4_as (F : Nat → Int) (R : Nat → Nat → Int) (k : Int) (kind : Int) : Int × (Nat → Int) × (Nat → Nat → Int) := if ¬ (0 ≤ k ∧ k ≤ (F 7) - 1) then (((-1), (u1 F 0 0), R)) else (if 0 ≤ kind ∧ kind ≤ 2 then (if (R 9 (Int.toNat k)) < kind then (((-10) - 2, (u1 F 0 2), R)) else ((1, (u1 F 0 0), R))) else (((-2), (u1 F 0 0), R)))
abbrev rm_X4_as : Room := { frames := 2, cells := 0, slots := 0, locals := 46 }
set_option maxHeartbeats 4000000 in
set_option maxRecDepth 100000 in
theorem c_X4_as {l : Launch} {D : va_G} {cI cS : ClassId} {ad : Nat → Nat} {F : Nat → Int} {R : Nat → Nat → Int} {A : Nat → Prop} (hD : va_D A (wM cI ad F R))  (k : Int) (kind : Int)  (hS9 : MV F R) (hr_k : -2147483648 ≤ k ∧ k < 2147483648) (hr_kind : -2147483648 ≤ kind ∧ kind < 2147483648): JV l yX4_as wsX4_as rm_X4_as (jB D cI cS (wM cI ad F R)) A [.ref (ad 0), .int (iI (k)), .int (iI (kind))] (fun v9 (u9 : (Nat → Int) × (Nat → Nat → Int)) => v9 = some (.int (iI (k_X4_as F R k kind).1)) ∧ u9.1 = (k_X4_as F R k kind).2.1 ∧ u9.2 = (k_X4_as F R k kind).2.2) (fun u9 H => va_P D vwCl (wM cI ad u9.1 u9.2) H) := by
  refine JV.mkI rfl (by decide +kernel) rfl (Nat.le_of_ble_eq_true rfl) ?_
  intro p e st mi ar bl mth cd Q ls C hB hl hret
  obtain ⟨hE, hP⟩ := hB
  have hx := C.1
  have hb := C.2.1
  have hl : lv_has ls 3 [(0, .ref (ad 0)), (1, .int (iI (k))), (2, .int (iI (kind)))] := hl
  have hin4 : ∀ w ∈ wsX40, w ∈ wsX4_as := fun _ h => List.mem_cons_of_mem _ (List.mem_append_right _ h)
  suffices hgo : ∀ (H : Heap) (lc : List Loc), va_P D vwCl (wM cI ad F R) H → va_S A st.heap H lc → W p l e rm_X4_as st mi ar bl mth cd H lc 0 0 Q (F0 mi 0 ls []) from hgo _ _ hP va_S.rf
  clear hP
  intro H lc hP hS
  have hM := hS9.town
  have hW := hM.works
  have hK := hM.wards
  have hlaw := hM.law
  have hrd := hM.reads
  have hsp := hM.spots
  have hhi := hM.high
  have hwd := hM.wide
  have hP8 := pw8 hW
  have hen := en_bd4 hW hM.vane
  refine lv_aload_n hx hb dX4_as_0 rfl (lv_at hl 0 rfl) ?_
  refine lv_iload_n hx hb dX4_as_1 rfl (lv_at hl 1 rfl) ?_
  refine jc_V C hl.1 (jpreV hE hP 4 0 rfl rfl) (c_X4_noWard k hM.wards (show -2147483648 ≤ k ∧ k < 2147483648 from (by omega))) (cwV 1 C.2.2.2.2 gX4_as_X4_noWard rfl rfl rfl (by decide +kernel) ⟨Nat.le_of_ble_eq_true rfl, Nat.le_of_ble_eq_true rfl⟩) (As := [.int (iI (k))]) (v := .int (iI (if ¬ (0 ≤ k ∧ k ≤ (F 7) - 1) then 1 else 0))) (hn := rfl) (hst := rfl) (rest := []) (hW := Nat.le_of_ble_eq_true rfl) (hdg := dX4_as_2) (hf := ⟨Nat.le_of_ble_eq_true rfl, Nat.le_of_ble_eq_true rfl⟩) ?_
  refine jz_bool_eq (tgt := 14) C dX4_as_5 (by decide) (fun h5 => ?_) (fun h5 => ?_)
  · skip
    refine lv_iload_n hx hb dX4_as_14 rfl (lv_at hl 2 rfl) ?_
    refine jz_i2l C dX4_as_15 (by omega) ?_
    refine jz_lconst (z := 0) C rfl dX4_as_16 ?_
    refine jz_ldc2 (z := 2) C (List.mem_of_getElem? (i := 1) rfl) (by decide +kernel) dX4_as_17 ?_
    refine jc_S C hl.1 (jpreS hE hP) (c_X4_in kind 0 2 (show -9223372036854775808 ≤ kind ∧ kind < 9223372036854775808 from (by omega)) (show -9223372036854775808 ≤ 0 ∧ 0 < 9223372036854775808 from (by omega)) (show -9223372036854775808 ≤ 2 ∧ 2 < 9223372036854775808 from (by omega))) (va_cwS 3 C.2.2.2.2 gX4_as_X4_in rfl rfl rfl (by decide +kernel) ⟨Nat.le_of_ble_eq_true rfl, Nat.le_of_ble_eq_true rfl⟩) (As := [.long (lI (kind)), .long (lI (0)), .long (lI (2))]) (v := .int (iI (if 0 ≤ kind ∧ kind ≤ 2 then 1 else 0))) (hn := rfl) (hst := rfl) (rest := []) (hW := Nat.le_of_ble_eq_true rfl) (hdg := dX4_as_20) (hf := ⟨Nat.le_of_ble_eq_true rfl, Nat.le_of_ble_eq_true rfl⟩) ?_
    refine jz_bool_ne (tgt := 33) C dX4_as_23 (by decide) (fun h23 => ?_) (fun h23 => ?_)
    · skip
      have hkd := hM.kind (Int.toNat k) (by omega)
      refine lv_aload_n hx hb dX4_as_33 rfl (lv_at hl 0 rfl) ?_
      refine fg_M_kindOf C hin4 hE hP (List.mem_of_getElem? (i := 2) rfl) dX4_as_34 ?_
      refine lv_iload_n hx hb dX4_as_37 rfl (lv_at hl 1 rfl) ?_
      refine fl_M_kindOf C hE hP (v := R 9 (Int.toNat k)) dX4_as_38 (by omega) rfl ?_
      refine lv_iload_n hx hb dX4_as_39 rfl (lv_at hl 2 rfl) ?_
      refine jz_icmp_lt (tgt := 51) C dX4_as_40 (by decide) (by omega) (fun h40 => ?_) (fun h40 => ?_)
      · skip
        refine lv_aload_n hx hb dX4_as_51 rfl (lv_at hl 0 rfl) ?_
        refine jz_const C dX4_as_52 ?_
        refine jw_V C hl.1 (jpreV hE hP 4 0 rfl rfl) (c_X4_failed (A := A) (jDM hD) 2 ) (cwV 1 C.2.2.2.2 gX4_as_X4_failed rfl rfl rfl (by decide +kernel) ⟨Nat.le_of_ble_eq_true rfl, Nat.le_of_ble_eq_true rfl⟩) (As := [.int (iI (2))]) (hn := rfl) (hst := rfl) (rest := []) (hW := Nat.le_of_ble_eq_true rfl) (hdg := dX4_as_53) (hf := ⟨Nat.le_of_ble_eq_true rfl, Nat.le_of_ble_eq_true rfl⟩) hS (fun v9 uq53 H lc hq9 hP hS => ?_)
        obtain rfl : v9 = some (.int (iI ((-10) - 2))) := hq9
        have hP : va_P D vwCl (wM cI ad (u1 F 0 2) R) H := hP
        have hk9 : k_X4_as F R k kind = ((-10) - 2, (u1 F 0 2), R) := by rw [k_X4_as, (if_neg h5), (if_pos h23), (if_pos h40)]
        exact hret _ ((u1 F 0 2), R) _ _ _ _ dX4_as_56 ⟨by rw [hk9], by rw [hk9], by rw [hk9]⟩ hP hS
      · skip
        refine lv_aload_n hx hb dX4_as_43 rfl (lv_at hl 0 rfl) ?_
        refine jz_const C dX4_as_44 ?_
        refine jw_V C hl.1 (jpreV hE hP 4 0 rfl rfl) (c_X4_refused (A := A) (jDM hD) 1 ) (cwV 1 C.2.2.2.2 gX4_as_X4_refused rfl rfl rfl (by decide +kernel) ⟨Nat.le_of_ble_eq_true rfl, Nat.le_of_ble_eq_true rfl⟩) (As := [.int (iI (1))]) (hn := rfl) (hst := rfl) (rest := []) (hW := Nat.le_of_ble_eq_true rfl) (hdg := dX4_as_45) (hf := ⟨Nat.le_of_ble_eq_true rfl, Nat.le_of_ble_eq_true rfl⟩) hS (fun v9 uq45 H lc hq9 hP hS => ?_)
        obtain rfl : v9 = some (.int (iI (1))) := hq9
        have hP : va_P D vwCl (wM cI ad (u1 F 0 0) R) H := hP
        refine lv_goto (tgt := 56) hx hb dX4_as_48 (by decide) ?_
        have hk9 : k_X4_as F R k kind = (1, (u1 F 0 0), R) := by rw [k_X4_as, (if_neg h5), (if_pos h23), (if_neg (Int.not_lt.mpr h40))]
        exact hret _ ((u1 F 0 0), R) _ _ _ _ dX4_as_56 ⟨by rw [hk9], by rw [hk9], by rw [hk9]⟩ hP hS
    · skip
      refine lv_aload_n hx hb dX4_as_26 rfl (lv_at hl 0 rfl) ?_
      refine jz_bipush C dX4_as_27 (by decide +kernel) ?_
      refine jw_V C hl.1 (jpreV hE hP 4 0 rfl rfl) (c_X4_refused (A := A) (jDM hD) (-2) ) (cwV 1 C.2.2.2.2 gX4_as_X4_refused rfl rfl rfl (by decide +kernel) ⟨Nat.le_of_ble_eq_true rfl, Nat.le_of_ble_eq_true rfl⟩) (As := [.int (iI (-2))]) (hn := rfl) (hst := rfl) (rest := []) (hW := Nat.le_of_ble_eq_true rfl) (hdg := dX4_as_29) (hf := ⟨Nat.le_of_ble_eq_true rfl, Nat.le_of_ble_eq_true rfl⟩) hS (fun v9 uq29 H lc hq9 hP hS => ?_)
      obtain rfl : v9 = some (.int (iI ((-2)))) := hq9
      have hP : va_P D vwCl (wM cI ad (u1 F 0 0) R) H := hP
      have hk9 : k_X4_as F R k kind = ((-2), (u1 F 0 0), R) := by rw [k_X4_as, (if_neg h5), (if_neg h23)]
      exact hret _ ((u1 F 0 0), R) _ _ _ _ dX4_as_32 ⟨by rw [hk9], by rw [hk9], by rw [hk9]⟩ hP hS
  · skip
    refine lv_aload_n hx hb dX4_as_8 rfl (lv_at hl 0 rfl) ?_
    refine jz_const C dX4_as_9 ?_
    refine jw_V C hl.1 (jpreV hE hP 4 0 rfl rfl) (c_X4_refused (A := A) (jDM hD) (-1) ) (cwV 1 C.2.2.2.2 gX4_as_X4_refused rfl rfl rfl (by decide +kernel) ⟨Nat.le_of_ble_eq_true rfl, Nat.le_of_ble_eq_true rfl⟩) (As := [.int (iI (-1))]) (hn := rfl) (hst := rfl) (rest := []) (hW := Nat.le_of_ble_eq_true rfl) (hdg := dX4_as_10) (hf := ⟨Nat.le_of_ble_eq_true rfl, Nat.le_of_ble_eq_true rfl⟩) hS (fun v9 uq10 H lc hq9 hP hS => ?_)
    obtain rfl : v9 = some (.int (iI ((-1)))) := hq9
    have hP : va_P D vwCl (wM cI ad (u1 F 0 0) R) H := hP
    have hk9 : k_X4_as F R k kind = ((-1), (u1 F 0 0), R) := by rw [k_X4_as, (if_pos h5)]
    exact hret _ ((u1 F 0 0), R) _ _ _ _ dX4_as_13 ⟨by rw [hk9], by rw [hk9], by rw [hk9]⟩ hP hS
def k_X4_trace (F : Nat → Int) (R : Nat → Nat → Int)  : Int := F 31
abbrev rm_X4_trace : Room := { frames := 0, cells := 0, slots := 0, locals := 0 }
set_option maxHeartbeats 4000000 in
set_option maxRecDepth 100000 in
theorem c_X4_trace {l : Launch} {D : va_G} {cI cS : ClassId} {ad : Nat → Nat} {F : Nat → Int} {R : Nat → Nat → Int}    (hS9 : MV F R): JS l yX4_trace wsX4_trace rm_X4_trace (jB D cI cS (wM cI ad F R)) [.ref (ad 0)] (.int (iI (k_X4_trace F R))) := by
  refine JS.mkI rfl (by decide +kernel) rfl (Nat.le_of_ble_eq_true rfl) ?_
  intro p e st mi ar bl mth cd Q ls C hB hl hret
  obtain ⟨hE, hP⟩ := hB
  have hx := C.1
  have hb := C.2.1
  have hl : lv_has ls 1 [(0, .ref (ad 0))] := hl
  have hin4 : ∀ w ∈ wsX40, w ∈ wsX4_trace := fun _ h => List.mem_cons_of_mem _ (List.mem_append_right _ h)
  have hM := hS9.town
  have hW := hM.works
  have hK := hM.wards
  have hlaw := hM.law
  have hrd := hM.reads
  have hsp := hM.spots
  have hhi := hM.high
  have hwd := hM.wide
  have hP8 := pw8 hW
  have hen := en_bd4 hW hM.vane
  refine lv_aload_n hx hb dX4_trace_0 rfl (lv_at hl 0 rfl) ?_
  refine fg_M_traceNow C hin4 hE hP (v := F 31) (List.mem_of_getElem? (i := 1) rfl) dX4_trace_1 rfl ?_
  exact jz_ret (show (k_X4_trace F R : Int) = F 31 from by rw [k_X4_trace]) (hret _ _ dX4_trace_4)
def k_X4_fault (F : Nat → Int) (R : Nat → Nat → Int)  : Int := F 0
abbrev rm_X4_fault : Room := { frames := 0, cells := 0, slots := 0, locals := 0 }
set_option maxHeartbeats 4000000 in
set_option maxRecDepth 100000 in
theorem c_X4_fault {l : Launch} {D : va_G} {cI cS : ClassId} {ad : Nat → Nat} {F : Nat → Int} {R : Nat → Nat → Int}    (hS9 : MV F R): JS l yX4_fault wsX4_fault rm_X4_fault (jB D cI cS (wM cI ad F R)) [.ref (ad 0)] (.int (iI (k_X4_fault F R))) := by
  refine JS.mkI rfl (by decide +kernel) rfl (Nat.le_of_ble_eq_true rfl) ?_
  intro p e st mi ar bl mth cd Q ls C hB hl hret
  obtain ⟨hE, hP⟩ := hB
  have hx := C.1
  have hb := C.2.1
  have hl : lv_has ls 1 [(0, .ref (ad 0))] := hl
  have hin4 : ∀ w ∈ wsX40, w ∈ wsX4_fault := fun _ h => List.mem_cons_of_mem _ (List.mem_append_right _ h)
  have hM := hS9.town
  have hW := hM.works
  have hK := hM.wards
  have hlaw := hM.law
  have hrd := hM.reads
  have hsp := hM.spots
  have hhi := hM.high
  have hwd := hM.wide
  have hP8 := pw8 hW
  have hen := en_bd4 hW hM.vane
  refine lv_aload_n hx hb dX4_fault_0 rfl (lv_at hl 0 rfl) ?_
  refine fg_M_fault C hin4 hE hP (v := F 0) (List.mem_of_getElem? (i := 1) rfl) dX4_fault_1 rfl ?_
  exact jz_ret (show (k_X4_fault F R : Int) = F 0 from by rw [k_X4_fault]) (hret _ _ dX4_fault_4)
def k_X4_many (F : Nat → Int) (R : Nat → Nat → Int) (what : Int) : Int := if what = 0 then ((F 1) * (F 2)) else (if what = 1 then (F 3) else (if what = 2 then (F 7) else (if what = 3 then (F 11) else (if what = 4 then (F 24) else (-2)))))
abbrev rm_X4_many : Room := { frames := 0, cells := 0, slots := 0, locals := 0 }
set_option maxHeartbeats 4000000 in
set_option maxRecDepth 100000 in
theorem c_X4_many {l : Launch} {D : va_G} {cI cS : ClassId} {ad : Nat → Nat} {F : Nat → Int} {R : Nat → Nat → Int}  (what : Int)  (hS9 : MV F R) (hr_what : -2147483648 ≤ what ∧ what < 2147483648): JS l yX4_many wsX4_many rm_X4_many (jB D cI cS (wM cI ad F R)) [.ref (ad 0), .int (iI (what))] (.int (iI (k_X4_many F R what))) := by
  refine JS.mkI rfl (by decide +kernel) rfl (Nat.le_of_ble_eq_true rfl) ?_
  intro p e st mi ar bl mth cd Q ls C hB hl hret
  obtain ⟨hE, hP⟩ := hB
  have hx := C.1
  have hb := C.2.1
  have hl : lv_has ls 2 [(0, .ref (ad 0)), (1, .int (iI (what)))] := hl
  have hin4 : ∀ w ∈ wsX40, w ∈ wsX4_many := fun _ h => List.mem_cons_of_mem _ (List.mem_append_right _ h)
  have hM := hS9.town
  have hW := hM.works
  have hK := hM.wards
  have hlaw := hM.law
  have hrd := hM.reads
  have hsp := hM.spots
  have hhi := hM.high
  have hwd := hM.wide
  have hP8 := pw8 hW
  have hen := en_bd4 hW hM.vane
  refine lv_iload_n hx hb dX4_many_0 rfl (lv_at hl 1 rfl) ?_
  refine jz_sub (P := what = 0) (fun h1_0 => ?_) (fun h1_0 => ?_)
  · refine jz_tabIn (tgt := 36) C 0 dX4_many_1 (by omega) rfl (by decide) ?_
    refine lv_aload_n hx hb dX4_many_36 rfl (lv_at hl 0 rfl) ?_
    refine fg_M_high C hin4 hE hP (v := F 1) (List.mem_of_getElem? (i := 1) rfl) dX4_many_37 rfl ?_
    refine lv_aload_n hx hb dX4_many_40 rfl (lv_at hl 0 rfl) ?_
    refine fg_M_wide C hin4 hE hP (v := F 2) (List.mem_of_getElem? (i := 2) rfl) dX4_many_41 rfl ?_
    refine jz_imul C dX4_many_44 ?_
    exact jz_ret (show (k_X4_many F R what : Int) = (F 1) * (F 2) from by rw [k_X4_many, (if_pos h1_0)]) (hret _ _ dX4_many_45)
  refine jz_sub (P := what = 1) (fun h1_1 => ?_) (fun h1_1 => ?_)
  · refine jz_tabIn (tgt := 46) C 1 dX4_many_1 (by omega) rfl (by decide) ?_
    refine lv_aload_n hx hb dX4_many_46 rfl (lv_at hl 0 rfl) ?_
    refine fg_M_works C hin4 hE hP (v := F 3) (List.mem_of_getElem? (i := 3) rfl) dX4_many_47 rfl ?_
    exact jz_ret (show (k_X4_many F R what : Int) = F 3 from by rw [k_X4_many, (if_neg h1_0), (if_pos h1_1)]) (hret _ _ dX4_many_50)
  refine jz_sub (P := what = 2) (fun h1_2 => ?_) (fun h1_2 => ?_)
  · refine jz_tabIn (tgt := 51) C 2 dX4_many_1 (by omega) rfl (by decide) ?_
    refine lv_aload_n hx hb dX4_many_51 rfl (lv_at hl 0 rfl) ?_
    refine fg_M_wards C hin4 hE hP (v := F 7) (List.mem_of_getElem? (i := 4) rfl) dX4_many_52 rfl ?_
    exact jz_ret (show (k_X4_many F R what : Int) = F 7 from by rw [k_X4_many, (if_neg h1_0), (if_neg h1_1), (if_pos h1_2)]) (hret _ _ dX4_many_55)
  refine jz_sub (P := what = 3) (fun h1_3 => ?_) (fun h1_3 => ?_)
  · refine jz_tabIn (tgt := 56) C 3 dX4_many_1 (by omega) rfl (by decide) ?_
    refine lv_aload_n hx hb dX4_many_56 rfl (lv_at hl 0 rfl) ?_
    refine fg_M_lawNow C hin4 hE hP (v := F 11) (List.mem_of_getElem? (i := 5) rfl) dX4_many_57 rfl ?_
    exact jz_ret (show (k_X4_many F R what : Int) = F 11 from by rw [k_X4_many, (if_neg h1_0), (if_neg h1_1), (if_neg h1_2), (if_pos h1_3)]) (hret _ _ dX4_many_60)
  refine jz_sub (P := what = 4) (fun h1_4 => ?_) (fun h1_4 => ?_)
  · refine jz_tabIn (tgt := 61) C 4 dX4_many_1 (by omega) rfl (by decide) ?_
    refine lv_aload_n hx hb dX4_many_61 rfl (lv_at hl 0 rfl) ?_
    refine fg_M_readings C hin4 hE hP (v := F 24) (List.mem_of_getElem? (i := 6) rfl) dX4_many_62 rfl ?_
    exact jz_ret (show (k_X4_many F R what : Int) = F 24 from by rw [k_X4_many, (if_neg h1_0), (if_neg h1_1), (if_neg h1_2), (if_neg h1_3), (if_pos h1_4)]) (hret _ _ dX4_many_65)
  refine jz_tabOut (tgt := 66) C dX4_many_1 (by omega) (by decide) ?_
  refine jz_bipush C dX4_many_66 (by decide +kernel) ?_
  exact jz_ret (show (k_X4_many F R what : Int) = -2 from by rw [k_X4_many, (if_neg h1_0), (if_neg h1_1), (if_neg h1_2), (if_neg h1_3), (if_neg h1_4)]) (hret _ _ dX4_many_68)
