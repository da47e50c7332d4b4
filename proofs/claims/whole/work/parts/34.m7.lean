theorem mul_bd {a b : Int} (ha : 1 ≤ a ∧ a ≤ 4) (hb : 2 ≤ b ∧ b ≤ 6) : 0 ≤ a * b ∧ a * b ≤ 24 := by
  rcases (show a = 1 ∨ a = 2 ∨ a = 3 ∨ a = 4 by omega) with e | e | e | e <;> rw [e] <;> omega
def k_X4_readsTown (F : Nat → Int) (R : Nat → Nat → Int) (fr : Int) (n : Int) : Int × (Nat → Int) × (Nat → Nat → Int) := if (cdx 0 n fr (R 29)) = 116 then (if 49 ≤ cdx (0 + 1) n fr (R 29) ∧ cdx (0 + 1) n fr (R 29) ≤ 52 then (if 50 ≤ cdx (((0 + 1)) + 1) n fr (R 29) ∧ cdx (((0 + 1)) + 1) n fr (R 29) ≤ 54 then (if ((spS (u1 (u1 (u1 (u1 (u1 (u1 (u1 (u1 F 12 0) 15 0) 16 0) 12 (0 + 1)) 12 (((0 + 1)) + 1)) 13 (cdx ((0 + 1)) n fr ((R 29)) - 48)) 12 (((((0 + 1)) + 1)) + 1)) 14 (cdx ((((0 + 1)) + 1)) n fr ((R 29)) - 48)) R fr n (Int.toNat ((cdx ((0 + 1)) n fr ((R 29)) - 48) * (cdx ((((0 + 1)) + 1)) n fr ((R 29)) - 48)))).1) = 0 then ((0, (spS (u1 (u1 (u1 (u1 (u1 (u1 (u1 (u1 F 12 0) 15 0) 16 0) 12 (0 + 1)) 12 (((0 + 1)) + 1)) 13 (cdx ((0 + 1)) n fr ((R 29)) - 48)) 12 (((((0 + 1)) + 1)) + 1)) 14 (cdx ((((0 + 1)) + 1)) n fr ((R 29)) - 48)) R fr n (Int.toNat ((cdx ((0 + 1)) n fr ((R 29)) - 48) * (cdx ((((0 + 1)) + 1)) n fr ((R 29)) - 48)))).2.1, (spS (u1 (u1 (u1 (u1 (u1 (u1 (u1 (u1 F 12 0) 15 0) 16 0) 12 (0 + 1)) 12 (((0 + 1)) + 1)) 13 (cdx ((0 + 1)) n fr ((R 29)) - 48)) 12 (((((0 + 1)) + 1)) + 1)) 14 (cdx ((((0 + 1)) + 1)) n fr ((R 29)) - 48)) R fr n (Int.toNat ((cdx ((0 + 1)) n fr ((R 29)) - 48) * (cdx ((((0 + 1)) + 1)) n fr ((R 29)) - 48)))).2.2)) else (if (((spS (u1 (u1 (u1 (u1 (u1 (u1 (u1 (u1 F 12 0) 15 0) 16 0) 12 (0 + 1)) 12 (((0 + 1)) + 1)) 13 (cdx ((0 + 1)) n fr ((R 29)) - 48)) 12 (((((0 + 1)) + 1)) + 1)) 14 (cdx ((((0 + 1)) + 1)) n fr ((R 29)) - 48)) R fr n (Int.toNat ((cdx ((0 + 1)) n fr ((R 29)) - 48) * (cdx ((((0 + 1)) + 1)) n fr ((R 29)) - 48)))).2.1) 12) = n then ((1, (spS (u1 (u1 (u1 (u1 (u1 (u1 (u1 (u1 F 12 0) 15 0) 16 0) 12 (0 + 1)) 12 (((0 + 1)) + 1)) 13 (cdx ((0 + 1)) n fr ((R 29)) - 48)) 12 (((((0 + 1)) + 1)) + 1)) 14 (cdx ((((0 + 1)) + 1)) n fr ((R 29)) - 48)) R fr n (Int.toNat ((cdx ((0 + 1)) n fr ((R 29)) - 48) * (cdx ((((0 + 1)) + 1)) n fr ((R 29)) - 48)))).2.1, (spS (u1 (u1 (u1 (u1 (u1 (u1 (u1 (u1 F 12 0) 15 0) 16 0) 12 (0 + 1)) 12 (((0 + 1)) + 1)) 13 (cdx ((0 + 1)) n fr ((R 29)) - 48)) 12 (((((0 + 1)) + 1)) + 1)) 14 (cdx ((((0 + 1)) + 1)) n fr ((R 29)) - 48)) R fr n (Int.toNat ((cdx ((0 + 1)) n fr ((R 29)) - 48) * (cdx ((((0 + 1)) + 1)) n fr ((R 29)) - 48)))).2.2)) else ((0, (spS (u1 (u1 (u1 (u1 (u1 (u1 (u1 (u1 F 12 0) 15 0) 16 0) 12 (0 + 1)) 12 (((0 + 1)) + 1)) 13 (cdx ((0 + 1)) n fr ((R 29)) - 48)) 12 (((((0 + 1)) + 1)) + 1)) 14 (cdx ((((0 + 1)) + 1)) n fr ((R 29)) - 48)) R fr n (Int.toNat ((cdx ((0 + 1)) n fr ((R 29)) - 48) * (cdx ((((0 + 1)) + 1)) n fr ((R 29)) - 48)))).2.1, (spS (u1 (u1 (u1 (u1 (u1 (u1 (u1 (u1 F 12 0) 15 0) 16 0) 12 (0 + 1)) 12 (((0 + 1)) + 1)) 13 (cdx ((0 + 1)) n fr ((R 29)) - 48)) 12 (((((0 + 1)) + 1)) + 1)) 14 (cdx ((((0 + 1)) + 1)) n fr ((R 29)) - 48)) R fr n (Int.toNat ((cdx ((0 + 1)) n fr ((R 29)) - 48) * (cdx ((((0 + 1)) + 1)) n fr ((R 29)) - 48)))).2.2)))) else ((0, (u1 (u1 (u1 (u1 (u1 (u1 (u1 (u1 F 12 0) 15 0) 16 0) 12 (0 + 1)) 12 (((0 + 1)) + 1)) 13 (cdx ((0 + 1)) n fr ((R 29)) - 48)) 12 (((((0 + 1)) + 1)) + 0)) 14 (-9)), R))) else ((0, (u1 (u1 (u1 (u1 (u1 (u1 (u1 F 12 0) 15 0) 16 0) 12 (0 + 1)) 12 (((0 + 1)) + 0)) 13 (-9)) 14 (-9)), R))) else ((0, (u1 (u1 (u1 (u1 (u1 (u1 F 12 0) 15 0) 16 0) 12 (0 + 0)) 13 (-9)) 14 (-9)), R))
abbrev rm_X4_readsTown : Room := { frames := 4, cells := 0, slots := 0, locals := 99 }
set_option maxHeartbeats 4000000 in
set_option maxRecDepth 100000 in
theorem c_X4_readsTown {l : Launch} {D : va_G} {cI cS : ClassId} {ad : Nat → Nat} {F : Nat → Int} {R : Nat → Nat → Int} {A : Nat → Prop} (hD : va_D A (wM cI ad F R))  (fr : Int) (n : Int)  (hfr : 0 ≤ fr ∧ 0 ≤ n ∧ fr + n ≤ 240) (hT : ∀ j, j < 240 → -2147483648 ≤ (R 29) j ∧ (R 29) j < 2147483648): JV l yX4_readsTown wsX4_readsTown rm_X4_readsTown (jB D cI cS (wM cI ad F R)) A [.ref (ad 0), .int (iI (fr)), .int (iI (n))] (fun v9 (u9 : (Nat → Int) × (Nat → Nat → Int)) => v9 = some (.int (iI (k_X4_readsTown F R fr n).1)) ∧ u9.1 = (k_X4_readsTown F R fr n).2.1 ∧ u9.2 = (k_X4_readsTown F R fr n).2.2) (fun u9 H => va_P D vwCl (wM cI ad u9.1 u9.2) H) := by
  refine JV.mkZ rfl (by decide +kernel) rfl (Nat.le_of_ble_eq_true rfl) ?_
  intro p e st mi ar bl mth cd Q ls C hB hl hret
  obtain ⟨hE, hP⟩ := hB
  have hx := C.1
  have hb := C.2.1
  have hl : lv_has ls 5 [(0, .ref (ad 0)), (1, .int (iI (fr))), (2, .int (iI (n)))] := hl
  have hin4 : ∀ w ∈ wsX40, w ∈ wsX4_readsTown := fun _ h => List.mem_cons_of_mem _ (List.mem_append_right _ h)
  suffices hgo : ∀ (H : Heap) (lc : List Loc), va_P D vwCl (wM cI ad F R) H → va_S A st.heap H lc → W p l e rm_X4_readsTown st mi ar bl mth cd H lc 0 0 Q (F0 mi 0 ls []) from hgo _ _ hP va_S.rf
  clear hP
  intro H lc hP hS
  have hcr0 := cdx_rng (p := 0) (n := n) (fr := fr) (by omega) hfr hT
  refine lv_aload_n hx hb dX4_readsTown_0 rfl (lv_at hl 0 rfl) ?_
  refine jz_const C dX4_readsTown_1 ?_
  refine fp_M_readAt C hin4 hE hP (jDM hD) hS (List.mem_of_getElem? (i := 1) rfl) dX4_readsTown_2 (fun H lc hP hS => ?_)
  refine lv_aload_n hx hb dX4_readsTown_5 rfl (lv_at hl 0 rfl) ?_
  refine jz_const C dX4_readsTown_6 ?_
  refine fp_M_readWorks C hin4 hE hP (jDM hD) hS (List.mem_of_getElem? (i := 2) rfl) dX4_readsTown_7 (fun H lc hP hS => ?_)
  refine lv_aload_n hx hb dX4_readsTown_10 rfl (lv_at hl 0 rfl) ?_
  refine jz_const C dX4_readsTown_11 ?_
  refine fp_M_readWards C hin4 hE hP (jDM hD) hS (List.mem_of_getElem? (i := 3) rfl) dX4_readsTown_12 (fun H lc hP hS => ?_)
  refine lv_aload_n hx hb dX4_readsTown_15 rfl (lv_at hl 0 rfl) ?_
  refine lv_iload_n hx hb dX4_readsTown_16 rfl (lv_at hl 1 rfl) ?_
  refine lv_iload_n hx hb dX4_readsTown_17 rfl (lv_at hl 2 rfl) ?_
  refine jc_V C hl.1 (jpreV hE hP 4 0 rfl rfl) (c_X4_codeAt fr n (show 0 ≤ 0 from (by omega)) hfr hT (show 0 ≤ 240 from (by omega))) (cwV 2 C.2.2.2.2 gX4_readsTown_X4_codeAt rfl rfl rfl (by decide +kernel) ⟨Nat.le_of_ble_eq_true rfl, Nat.le_of_ble_eq_true rfl⟩) (As := [.int (iI (fr)), .int (iI (n))]) (v := .int (iI (cdx 0 n fr (R 29)))) (hn := rfl) (hst := rfl) (rest := []) (hW := Nat.le_of_ble_eq_true rfl) (hdg := dX4_readsTown_18) (hf := ⟨Nat.le_of_ble_eq_true rfl, Nat.le_of_ble_eq_true rfl⟩) ?_
  refine jz_bipush C dX4_readsTown_21 (by decide +kernel) ?_
  refine jz_icmp_ne (tgt := 30) C dX4_readsTown_23 (by decide) (by omega) (fun h23 => ?_) (fun h23 => ?_)
  · skip
    refine jz_const C dX4_readsTown_30 ?_
    refine lv_istore_n (lv' := [(3, .int (iI (0))), (0, .ref (ad 0)), (1, .int (iI (fr))), (2, .int (iI (n)))]) hx hb dX4_readsTown_31 rfl hl (by decide) rfl (fun ls hl => ?_)
    refine lv_aload_n hx hb dX4_readsTown_32 rfl (lv_at hl 1 rfl) ?_
    refine lv_dup hx hb dX4_readsTown_33 rfl ?_
    refine fg_M_readAt C hin4 hE hP (v := 0) (List.mem_of_getElem? (i := 1) rfl) dX4_readsTown_34 rfl ?_
    refine lv_iload_n hx hb dX4_readsTown_37 rfl (lv_at hl 0 rfl) ?_
    refine jz_if_eq (tgt := 45) C dX4_readsTown_38 (by decide) (by omega) (fun h38 => ?_) (fun h38 => ?_)
    · skip
      refine jz_const C dX4_readsTown_45 ?_
      refine jz_iadd C dX4_readsTown_46 ?_
      refine fp_M_readAt C hin4 hE hP (jDM hD) hS (List.mem_of_getElem? (i := 1) rfl) dX4_readsTown_47 (fun H lc hP hS => ?_)
      refine lv_aload_n hx hb dX4_readsTown_50 rfl (lv_at hl 1 rfl) ?_
      refine lv_iload_n hx hb dX4_readsTown_51 rfl (lv_at hl 0 rfl) ?_
      refine jz_if_eq (tgt := 66) C dX4_readsTown_52 (by decide) (by omega) (fun h52 => ?_) (fun h52 => ?_)
      · skip
        refine jz_bipush C dX4_readsTown_66 (by decide +kernel) ?_
        refine fp_M_readHigh C hin4 hE hP (jDM hD) hS (List.mem_of_getElem? (i := 4) rfl) dX4_readsTown_68 (fun H lc hP hS => ?_)
        refine lv_aload_n hx hb dX4_readsTown_71 rfl (lv_at hl 1 rfl) ?_
        refine lv_aload_n hx hb dX4_readsTown_72 rfl (lv_at hl 1 rfl) ?_
        refine fg_M_readHigh C hin4 hE hP (v := -9) (List.mem_of_getElem? (i := 4) rfl) dX4_readsTown_73 rfl ?_
        refine jz_if_le (tgt := 91) C dX4_readsTown_76 (by decide) (by omega) (fun h76 => ?_) (fun h76 => ?_)
        · skip
          refine jz_bipush C dX4_readsTown_91 (by decide +kernel) ?_
          refine fp_M_readWide C hin4 hE hP (jDM hD) hS (List.mem_of_getElem? (i := 5) rfl) dX4_readsTown_93 (fun H lc hP hS => ?_)
          refine lv_aload_n hx hb dX4_readsTown_96 rfl (lv_at hl 1 rfl) ?_
          refine fg_M_readWide C hin4 hE hP (v := -9) (List.mem_of_getElem? (i := 5) rfl) dX4_readsTown_97 rfl ?_
          refine jz_if_le (tgt := 107) C dX4_readsTown_100 (by decide) (by omega) (fun h100 => ?_) (fun h100 => ?_)
          · skip
            refine jz_const C dX4_readsTown_107 ?_
            refine lv_istore_n (lv' := [(3, .int (iI (0))), (0, .ref (ad 0)), (1, .int (iI (fr))), (2, .int (iI (n)))]) hx hb dX4_readsTown_108 rfl hl (by decide) rfl (fun ls hl => ?_)
            refine jz_const C dX4_readsTown_109 ?_
            refine lv_istore (lv' := [(4, .int (iI (0))), (3, .int (iI (0))), (0, .ref (ad 0)), (1, .int (iI (fr))), (2, .int (iI (n)))]) hx hb dX4_readsTown_110 hl (by decide) rfl (fun ls hl => ?_)
            refine lv_iload_n hx hb dX4_readsTown_112 rfl (lv_at hl 1 rfl) ?_
            refine jz_if_eq (tgt := 145) C dX4_readsTown_113 (by decide) (by omega) (fun h113 => ?_) (fun h113 => ?_)
            · skip
              refine lv_iload_n hx hb dX4_readsTown_145 rfl (lv_at hl 1 rfl) ?_
              refine jz_if_eq (tgt := 161) C dX4_readsTown_146 (by decide) (by omega) (fun h146 => ?_) (fun h146 => ?_)
              · skip
                refine jz_const C dX4_readsTown_161 ?_
                have hk9 : k_X4_readsTown F R fr n = (0, (u1 (u1 (u1 (u1 (u1 (u1 F 12 0) 15 0) 16 0) 12 (0 + 0)) 13 (-9)) 14 (-9)), R) := by rw [k_X4_readsTown, (if_neg (h23))]
                exact hret _ ((u1 (u1 (u1 (u1 (u1 (u1 F 12 0) 15 0) 16 0) 12 (0 + 0)) 13 (-9)) 14 (-9)), R) _ _ _ _ dX4_readsTown_162 (by decide +kernel) ⟨by rw [hk9], by rw [hk9], by rw [hk9]⟩ hP hS
              · exact absurd h146 (by decide)
            · exact absurd h113 (by decide)
          · exact absurd h100 (by decide)
        · exact absurd h76 (by decide)
      · exact absurd h52 (by decide)
    · exact absurd h38 (by decide)
  · skip
    refine jz_const C dX4_readsTown_26 ?_
    refine lv_goto (tgt := 31) hx hb dX4_readsTown_27 (by decide) ?_
    refine lv_istore_n (lv' := [(3, .int (iI (1))), (0, .ref (ad 0)), (1, .int (iI (fr))), (2, .int (iI (n)))]) hx hb dX4_readsTown_31 rfl hl (by decide) rfl (fun ls hl => ?_)
    have hlt0 := cdx_lt (p := 0) (n := n) (fr := fr) (T := R 29) (by omega)
    refine lv_aload_n hx hb dX4_readsTown_32 rfl (lv_at hl 1 rfl) ?_
    refine lv_dup hx hb dX4_readsTown_33 rfl ?_
    refine fg_M_readAt C hin4 hE hP (v := 0) (List.mem_of_getElem? (i := 1) rfl) dX4_readsTown_34 rfl ?_
    refine lv_iload_n hx hb dX4_readsTown_37 rfl (lv_at hl 0 rfl) ?_
    refine jz_if_eq (tgt := 45) C dX4_readsTown_38 (by decide) (by omega) (fun h38 => ?_) (fun h38 => ?_)
    · exact absurd h38 (by decide)
    · skip
      refine jz_const C dX4_readsTown_41 ?_
      refine lv_goto (tgt := 46) hx hb dX4_readsTown_42 (by decide) ?_
      refine jz_iadd C dX4_readsTown_46 ?_
      refine fp_M_readAt C hin4 hE hP (jDM hD) hS (List.mem_of_getElem? (i := 1) rfl) dX4_readsTown_47 (fun H lc hP hS => ?_)
      refine lv_aload_n hx hb dX4_readsTown_50 rfl (lv_at hl 1 rfl) ?_
      refine lv_iload_n hx hb dX4_readsTown_51 rfl (lv_at hl 0 rfl) ?_
      refine jz_if_eq (tgt := 66) C dX4_readsTown_52 (by decide) (by omega) (fun h52 => ?_) (fun h52 => ?_)
      · exact absurd h52 (by decide)
      · skip
        refine lv_aload_n hx hb dX4_readsTown_55 rfl (lv_at hl 1 rfl) ?_
        refine lv_iload_n hx hb dX4_readsTown_56 rfl (lv_at hl 2 rfl) ?_
        refine lv_iload_n hx hb dX4_readsTown_57 rfl (lv_at hl 3 rfl) ?_
        refine jz_const C dX4_readsTown_58 ?_
        refine jz_const C dX4_readsTown_59 ?_
        refine jz_sub (P := 49 ≤ cdx (0 + 1) n fr (R 29) ∧ cdx (0 + 1) n fr (R 29) ≤ 52) (fun hd1 => ?_) (fun hd1 => ?_)
        · skip
          refine jw_V C hl.1 (jpreV hE hP 4 0 rfl rfl) (c_X4_figureT (A := A) (jDM hD) fr n 1 4 (show 0 ≤ (0 + 1) from (by omega)) hfr hT (show (0 + 1) ≤ 240 from (by omega)) (by decide) (show 48 + 1 ≤ cdx (0 + 1) n fr (R 29) ∧ cdx (0 + 1) n fr (R 29) ≤ 48 + 4 from (by omega))) (cwV 4 C.2.2.2.2 gX4_readsTown_X4_figure rfl rfl rfl (by decide +kernel) ⟨Nat.le_of_ble_eq_true rfl, Nat.le_of_ble_eq_true rfl⟩) (As := [.int (iI (fr)), .int (iI (n)), .int (iI (1)), .int (iI (4))]) (hn := rfl) (hst := rfl) (rest := [.ref (ad 0)]) (hW := Nat.le_of_ble_eq_true rfl) (hdg := dX4_readsTown_60) (hf := ⟨Nat.le_of_ble_eq_true rfl, Nat.le_of_ble_eq_true rfl⟩) hS (fun v9 uq60 H lc hq9 hP hS => ?_)
          obtain rfl : v9 = some (.int (iI (cdx ((0 + 1)) n fr ((R 29)) - 48))) := hq9
          have hP : va_P D vwCl (wM cI ad (u1 (u1 (u1 (u1 (u1 F 12 0) 15 0) 16 0) 12 (0 + 1)) 12 (((0 + 1)) + 1)) R) H := hP
          refine lv_goto (tgt := 68) hx hb dX4_readsTown_63 (by decide) ?_
          have hlt1 := cdx_lt (p := 0 + 1) (n := n) (fr := fr) (T := R 29) (by omega)
          refine fp_M_readHigh C hin4 hE hP (jDM hD) hS (List.mem_of_getElem? (i := 4) rfl) dX4_readsTown_68 (fun H lc hP hS => ?_)
          refine lv_aload_n hx hb dX4_readsTown_71 rfl (lv_at hl 1 rfl) ?_
          refine lv_aload_n hx hb dX4_readsTown_72 rfl (lv_at hl 1 rfl) ?_
          refine fg_M_readHigh C hin4 hE hP (v := cdx ((0 + 1)) n fr ((R 29)) - 48) (List.mem_of_getElem? (i := 4) rfl) dX4_readsTown_73 rfl ?_
          refine jz_if_le (tgt := 91) C dX4_readsTown_76 (by decide) (by omega) (fun h76 => ?_) (fun h76 => ?_)
          · exfalso; omega
          · skip
            refine lv_aload_n hx hb dX4_readsTown_79 rfl (lv_at hl 1 rfl) ?_
            refine lv_iload_n hx hb dX4_readsTown_80 rfl (lv_at hl 2 rfl) ?_
            refine lv_iload_n hx hb dX4_readsTown_81 rfl (lv_at hl 3 rfl) ?_
            refine jz_const C dX4_readsTown_82 ?_
            refine jz_bipush C dX4_readsTown_83 (by decide +kernel) ?_
            refine jz_sub (P := 50 ≤ cdx (((0 + 1)) + 1) n fr (R 29) ∧ cdx (((0 + 1)) + 1) n fr (R 29) ≤ 54) (fun hd2 => ?_) (fun hd2 => ?_)
            · skip
              refine jw_V C hl.1 (jpreV hE hP 4 0 rfl rfl) (c_X4_figureT (A := A) (jDM hD) fr n 2 6 (show 0 ≤ (((0 + 1)) + 1) from (by omega)) hfr hT (show (((0 + 1)) + 1) ≤ 240 from (by omega)) (by decide) (show 48 + 2 ≤ cdx (((0 + 1)) + 1) n fr (R 29) ∧ cdx (((0 + 1)) + 1) n fr (R 29) ≤ 48 + 6 from (by omega))) (cwV 4 C.2.2.2.2 gX4_readsTown_X4_figure rfl rfl rfl (by decide +kernel) ⟨Nat.le_of_ble_eq_true rfl, Nat.le_of_ble_eq_true rfl⟩) (As := [.int (iI (fr)), .int (iI (n)), .int (iI (2)), .int (iI (6))]) (hn := rfl) (hst := rfl) (rest := [.ref (ad 0)]) (hW := Nat.le_of_ble_eq_true rfl) (hdg := dX4_readsTown_85) (hf := ⟨Nat.le_of_ble_eq_true rfl, Nat.le_of_ble_eq_true rfl⟩) hS (fun v9 uq85 H lc hq9 hP hS => ?_)
              obtain rfl : v9 = some (.int (iI (cdx ((((0 + 1)) + 1)) n fr ((R 29)) - 48))) := hq9
              have hP : va_P D vwCl (wM cI ad (u1 (u1 (u1 (u1 (u1 (u1 (u1 F 12 0) 15 0) 16 0) 12 (0 + 1)) 12 (((0 + 1)) + 1)) 13 (cdx ((0 + 1)) n fr ((R 29)) - 48)) 12 (((((0 + 1)) + 1)) + 1)) R) H := hP
              refine lv_goto (tgt := 93) hx hb dX4_readsTown_88 (by decide) ?_
              have hlt2 := cdx_lt (p := 0 + 1 + 1) (n := n) (fr := fr) (T := R 29) (by omega)
              refine fp_M_readWide C hin4 hE hP (jDM hD) hS (List.mem_of_getElem? (i := 5) rfl) dX4_readsTown_93 (fun H lc hP hS => ?_)
              refine lv_aload_n hx hb dX4_readsTown_96 rfl (lv_at hl 1 rfl) ?_
              refine fg_M_readWide C hin4 hE hP (v := cdx ((((0 + 1)) + 1)) n fr ((R 29)) - 48) (List.mem_of_getElem? (i := 5) rfl) dX4_readsTown_97 rfl ?_
              refine jz_if_le (tgt := 107) C dX4_readsTown_100 (by decide) (by omega) (fun h100 => ?_) (fun h100 => ?_)
              · exfalso; omega
              · skip
                refine jz_const C dX4_readsTown_103 ?_
                refine lv_goto (tgt := 108) hx hb dX4_readsTown_104 (by decide) ?_
                refine lv_istore_n (lv' := [(3, .int (iI (1))), (0, .ref (ad 0)), (1, .int (iI (fr))), (2, .int (iI (n)))]) hx hb dX4_readsTown_108 rfl hl (by decide) rfl (fun ls hl => ?_)
                refine jz_const C dX4_readsTown_109 ?_
                refine lv_istore (lv' := [(4, .int (iI (0))), (3, .int (iI (1))), (0, .ref (ad 0)), (1, .int (iI (fr))), (2, .int (iI (n)))]) hx hb dX4_readsTown_110 hl (by decide) rfl (fun ls hl => ?_)
                have hB0 : BM (u1 (u1 (u1 (u1 (u1 (u1 (u1 (u1 F 12 0) 15 0) 16 0) 12 (0 + 1)) 12 (((0 + 1)) + 1)) 13 (cdx ((0 + 1)) n fr ((R 29)) - 48)) 12 (((((0 + 1)) + 1)) + 1)) 14 (cdx ((((0 + 1)) + 1)) n fr ((R 29)) - 48)) R n fr := ⟨⟨by show 0 ≤ ((((0 + 1)) + 1)) + 1; omega, by show ((((0 + 1)) + 1)) + 1 ≤ n; omega⟩, hfr, ⟨by show (0 : Int) ≤ 0; omega, by show (0 : Int) ≤ 4; omega⟩, ⟨by show (0 : Int) ≤ 0; omega, by show (0 : Int) ≤ 6; omega⟩, ⟨by show 2 ≤ cdx ((((0 + 1)) + 1)) n fr ((R 29)) - 48; omega, by show cdx ((((0 + 1)) + 1)) n fr ((R 29)) - 48 ≤ 6; omega⟩, hT⟩
                have hHW := mul_bd (a := cdx ((0 + 1)) n fr ((R 29)) - 48) (b := cdx ((((0 + 1)) + 1)) n fr ((R 29)) - 48) (by omega) (by omega)
                have key112 : ∀ (n112 : Nat) (c : Nat) (x : Int) (F1 : Nat → Int) (R1 : Nat → Nat → Int) (hcw : (c : Int) ≤ ((cdx ((0 + 1)) n fr ((R 29)) - 48) * (cdx ((((0 + 1)) + 1)) n fr ((R 29)) - 48))) (hS8 : spS (u1 (u1 (u1 (u1 (u1 (u1 (u1 (u1 F 12 0) 15 0) 16 0) 12 (0 + 1)) 12 (((0 + 1)) + 1)) 13 (cdx ((0 + 1)) n fr ((R 29)) - 48)) 12 (((((0 + 1)) + 1)) + 1)) 14 (cdx ((((0 + 1)) + 1)) n fr ((R 29)) - 48)) R fr n c = (x, F1, R1)) (hB1 : BM F1 R1 n fr) (hx01 : x = 0 ∨ x = 1) (hkp : keM (u1 (u1 (u1 (u1 (u1 (u1 (u1 (u1 F 12 0) 15 0) 16 0) 12 (0 + 1)) 12 (((0 + 1)) + 1)) 13 (cdx ((0 + 1)) n fr ((R 29)) - 48)) 12 (((((0 + 1)) + 1)) + 1)) 14 (cdx ((((0 + 1)) + 1)) n fr ((R 29)) - 48)) F1 R R1), (((cdx ((0 + 1)) n fr ((R 29)) - 48) * (cdx ((((0 + 1)) + 1)) n fr ((R 29)) - 48)) - (c : Int) : Int) < n112 → ∀ (H : Heap) (lc : List Loc), va_P D vwCl (wM cI ad F1 R1) H → va_S A st.heap H lc → ∀ (ls : Array Slot), lv_has ls 5 [(4, .int (iI ((c : Int)))), (3, .int (iI (x))), (0, .ref (ad 0)), (1, .int (iI (fr))), (2, .int (iI (n)))] → W p l e rm_X4_readsTown st mi ar bl mth cd H lc 0 0 Q (F0 mi 112 ls []) := by
                  intro n112
                  induction n112 with
                  | zero => intro c x F1 R1 hcw hS8 hB1 hx01 hkp hn9; exfalso; omega
                  | succ n112 ih112 =>
                    intro c x F1 R1 hcw hS8 hB1 hx01 hkp hn9 H lc hP hS ls hl
                    refine lv_iload_n hx hb dX4_readsTown_112 rfl (lv_at hl 1 rfl) ?_
                    refine jz_if_eq (tgt := 145) C dX4_readsTown_113 (by decide) (by omega) (fun h113 => ?_) (fun h113 => ?_)
                    · skip
                      have hXe : (spS (u1 (u1 (u1 (u1 (u1 (u1 (u1 (u1 F 12 0) 15 0) 16 0) 12 (0 + 1)) 12 (((0 + 1)) + 1)) 13 (cdx ((0 + 1)) n fr ((R 29)) - 48)) 12 (((((0 + 1)) + 1)) + 1)) 14 (cdx ((((0 + 1)) + 1)) n fr ((R 29)) - 48)) R fr n (Int.toNat ((cdx ((0 + 1)) n fr ((R 29)) - 48) * (cdx ((((0 + 1)) + 1)) n fr ((R 29)) - 48)))) = (x, F1, R1) := by
                        first | exact (spS_0 (c := c) (by rw [hS8]; exact h113) _ (by omega)).trans hS8 | (rw [show Int.toNat ((cdx ((0 + 1)) n fr ((R 29)) - 48) * (cdx ((((0 + 1)) + 1)) n fr ((R 29)) - 48)) = c by omega]; exact hS8)
                      have hBX := (spS_ok hB0 (Int.toNat ((cdx ((0 + 1)) n fr ((R 29)) - 48) * (cdx ((((0 + 1)) + 1)) n fr ((R 29)) - 48)))).2.1
                      have hX1 := (spS_ok hB0 (Int.toNat ((cdx ((0 + 1)) n fr ((R 29)) - 48) * (cdx ((((0 + 1)) + 1)) n fr ((R 29)) - 48)))).1
                      have hXpl := hBX.1
                      have hg9 : F1 = (spS (u1 (u1 (u1 (u1 (u1 (u1 (u1 (u1 F 12 0) 15 0) 16 0) 12 (0 + 1)) 12 (((0 + 1)) + 1)) 13 (cdx ((0 + 1)) n fr ((R 29)) - 48)) 12 (((((0 + 1)) + 1)) + 1)) 14 (cdx ((((0 + 1)) + 1)) n fr ((R 29)) - 48)) R fr n (Int.toNat ((cdx ((0 + 1)) n fr ((R 29)) - 48) * (cdx ((((0 + 1)) + 1)) n fr ((R 29)) - 48)))).2.1 := by rw [hXe]
                      rw [hg9] at hP
                      have hg9 : R1 = (spS (u1 (u1 (u1 (u1 (u1 (u1 (u1 (u1 F 12 0) 15 0) 16 0) 12 (0 + 1)) 12 (((0 + 1)) + 1)) 13 (cdx ((0 + 1)) n fr ((R 29)) - 48)) 12 (((((0 + 1)) + 1)) + 1)) 14 (cdx ((((0 + 1)) + 1)) n fr ((R 29)) - 48)) R fr n (Int.toNat ((cdx ((0 + 1)) n fr ((R 29)) - 48) * (cdx ((((0 + 1)) + 1)) n fr ((R 29)) - 48)))).2.2 := by rw [hXe]
                      rw [hg9] at hP
                      have hl : lv_has ls 5 [(4, .int (iI ((c : Int)))), (3, .int (iI ((spS (u1 (u1 (u1 (u1 (u1 (u1 (u1 (u1 F 12 0) 15 0) 16 0) 12 (0 + 1)) 12 (((0 + 1)) + 1)) 13 (cdx ((0 + 1)) n fr ((R 29)) - 48)) 12 (((((0 + 1)) + 1)) + 1)) 14 (cdx ((((0 + 1)) + 1)) n fr ((R 29)) - 48)) R fr n (Int.toNat ((cdx ((0 + 1)) n fr ((R 29)) - 48) * (cdx ((((0 + 1)) + 1)) n fr ((R 29)) - 48)))).1))), (0, .ref (ad 0)), (1, .int (iI (fr))), (2, .int (iI (n)))] := by
                        rw [show ((spS (u1 (u1 (u1 (u1 (u1 (u1 (u1 (u1 F 12 0) 15 0) 16 0) 12 (0 + 1)) 12 (((0 + 1)) + 1)) 13 (cdx ((0 + 1)) n fr ((R 29)) - 48)) 12 (((((0 + 1)) + 1)) + 1)) 14 (cdx ((((0 + 1)) + 1)) n fr ((R 29)) - 48)) R fr n (Int.toNat ((cdx ((0 + 1)) n fr ((R 29)) - 48) * (cdx ((((0 + 1)) + 1)) n fr ((R 29)) - 48)))).1 : Int) = x from by rw [hXe]]
                        exact hl
                      refine lv_iload_n hx hb dX4_readsTown_145 rfl (lv_at hl 1 rfl) ?_
                      refine jz_if_eq (tgt := 161) C dX4_readsTown_146 (by decide) (by omega) (fun h146 => ?_) (fun h146 => ?_)
                      · skip
                        refine jz_const C dX4_readsTown_161 ?_
                        have hk9 : k_X4_readsTown F R fr n = (0, (spS (u1 (u1 (u1 (u1 (u1 (u1 (u1 (u1 F 12 0) 15 0) 16 0) 12 (0 + 1)) 12 (((0 + 1)) + 1)) 13 (cdx ((0 + 1)) n fr ((R 29)) - 48)) 12 (((((0 + 1)) + 1)) + 1)) 14 (cdx ((((0 + 1)) + 1)) n fr ((R 29)) - 48)) R fr n (Int.toNat ((cdx ((0 + 1)) n fr ((R 29)) - 48) * (cdx ((((0 + 1)) + 1)) n fr ((R 29)) - 48)))).2.1, (spS (u1 (u1 (u1 (u1 (u1 (u1 (u1 (u1 F 12 0) 15 0) 16 0) 12 (0 + 1)) 12 (((0 + 1)) + 1)) 13 (cdx ((0 + 1)) n fr ((R 29)) - 48)) 12 (((((0 + 1)) + 1)) + 1)) 14 (cdx ((((0 + 1)) + 1)) n fr ((R 29)) - 48)) R fr n (Int.toNat ((cdx ((0 + 1)) n fr ((R 29)) - 48) * (cdx ((((0 + 1)) + 1)) n fr ((R 29)) - 48)))).2.2) := by rw [k_X4_readsTown, (if_pos h23), (if_pos hd1), (if_pos hd2), (if_pos h146)]
                        exact hret _ ((spS (u1 (u1 (u1 (u1 (u1 (u1 (u1 (u1 F 12 0) 15 0) 16 0) 12 (0 + 1)) 12 (((0 + 1)) + 1)) 13 (cdx ((0 + 1)) n fr ((R 29)) - 48)) 12 (((((0 + 1)) + 1)) + 1)) 14 (cdx ((((0 + 1)) + 1)) n fr ((R 29)) - 48)) R fr n (Int.toNat ((cdx ((0 + 1)) n fr ((R 29)) - 48) * (cdx ((((0 + 1)) + 1)) n fr ((R 29)) - 48)))).2.1, (spS (u1 (u1 (u1 (u1 (u1 (u1 (u1 (u1 F 12 0) 15 0) 16 0) 12 (0 + 1)) 12 (((0 + 1)) + 1)) 13 (cdx ((0 + 1)) n fr ((R 29)) - 48)) 12 (((((0 + 1)) + 1)) + 1)) 14 (cdx ((((0 + 1)) + 1)) n fr ((R 29)) - 48)) R fr n (Int.toNat ((cdx ((0 + 1)) n fr ((R 29)) - 48) * (cdx ((((0 + 1)) + 1)) n fr ((R 29)) - 48)))).2.2) _ _ _ _ dX4_readsTown_162 (by decide +kernel) ⟨by rw [hk9], by rw [hk9], by rw [hk9]⟩ hP hS
                      · skip
                        refine lv_aload_n hx hb dX4_readsTown_149 rfl (lv_at hl 2 rfl) ?_
                        refine fg_M_readAt C hin4 hE hP (v := ((spS (u1 (u1 (u1 (u1 (u1 (u1 (u1 (u1 F 12 0) 15 0) 16 0) 12 (0 + 1)) 12 (((0 + 1)) + 1)) 13 (cdx ((0 + 1)) n fr ((R 29)) - 48)) 12 (((((0 + 1)) + 1)) + 1)) 14 (cdx ((((0 + 1)) + 1)) n fr ((R 29)) - 48)) R fr n (Int.toNat ((cdx ((0 + 1)) n fr ((R 29)) - 48) * (cdx ((((0 + 1)) + 1)) n fr ((R 29)) - 48)))).2.1) 12) (List.mem_of_getElem? (i := 1) rfl) dX4_readsTown_150 rfl ?_
                        refine lv_iload_n hx hb dX4_readsTown_153 rfl (lv_at hl 4 rfl) ?_
                        refine jz_icmp_ne (tgt := 161) C dX4_readsTown_154 (by decide) (by omega) (fun h154 => ?_) (fun h154 => ?_)
                        · skip
                          refine jz_const C dX4_readsTown_161 ?_
                          have hk9 : k_X4_readsTown F R fr n = (0, (spS (u1 (u1 (u1 (u1 (u1 (u1 (u1 (u1 F 12 0) 15 0) 16 0) 12 (0 + 1)) 12 (((0 + 1)) + 1)) 13 (cdx ((0 + 1)) n fr ((R 29)) - 48)) 12 (((((0 + 1)) + 1)) + 1)) 14 (cdx ((((0 + 1)) + 1)) n fr ((R 29)) - 48)) R fr n (Int.toNat ((cdx ((0 + 1)) n fr ((R 29)) - 48) * (cdx ((((0 + 1)) + 1)) n fr ((R 29)) - 48)))).2.1, (spS (u1 (u1 (u1 (u1 (u1 (u1 (u1 (u1 F 12 0) 15 0) 16 0) 12 (0 + 1)) 12 (((0 + 1)) + 1)) 13 (cdx ((0 + 1)) n fr ((R 29)) - 48)) 12 (((((0 + 1)) + 1)) + 1)) 14 (cdx ((((0 + 1)) + 1)) n fr ((R 29)) - 48)) R fr n (Int.toNat ((cdx ((0 + 1)) n fr ((R 29)) - 48) * (cdx ((((0 + 1)) + 1)) n fr ((R 29)) - 48)))).2.2) := by rw [k_X4_readsTown, (if_pos h23), (if_pos hd1), (if_pos hd2), (if_neg (h146)), (if_neg (h154))]
                          exact hret _ ((spS (u1 (u1 (u1 (u1 (u1 (u1 (u1 (u1 F 12 0) 15 0) 16 0) 12 (0 + 1)) 12 (((0 + 1)) + 1)) 13 (cdx ((0 + 1)) n fr ((R 29)) - 48)) 12 (((((0 + 1)) + 1)) + 1)) 14 (cdx ((((0 + 1)) + 1)) n fr ((R 29)) - 48)) R fr n (Int.toNat ((cdx ((0 + 1)) n fr ((R 29)) - 48) * (cdx ((((0 + 1)) + 1)) n fr ((R 29)) - 48)))).2.1, (spS (u1 (u1 (u1 (u1 (u1 (u1 (u1 (u1 F 12 0) 15 0) 16 0) 12 (0 + 1)) 12 (((0 + 1)) + 1)) 13 (cdx ((0 + 1)) n fr ((R 29)) - 48)) 12 (((((0 + 1)) + 1)) + 1)) 14 (cdx ((((0 + 1)) + 1)) n fr ((R 29)) - 48)) R fr n (Int.toNat ((cdx ((0 + 1)) n fr ((R 29)) - 48) * (cdx ((((0 + 1)) + 1)) n fr ((R 29)) - 48)))).2.2) _ _ _ _ dX4_readsTown_162 (by decide +kernel) ⟨by rw [hk9], by rw [hk9], by rw [hk9]⟩ hP hS
                        · skip
                          refine jz_const C dX4_readsTown_157 ?_
                          refine lv_goto (tgt := 162) hx hb dX4_readsTown_158 (by decide) ?_
                          have hk9 : k_X4_readsTown F R fr n = (1, (spS (u1 (u1 (u1 (u1 (u1 (u1 (u1 (u1 F 12 0) 15 0) 16 0) 12 (0 + 1)) 12 (((0 + 1)) + 1)) 13 (cdx ((0 + 1)) n fr ((R 29)) - 48)) 12 (((((0 + 1)) + 1)) + 1)) 14 (cdx ((((0 + 1)) + 1)) n fr ((R 29)) - 48)) R fr n (Int.toNat ((cdx ((0 + 1)) n fr ((R 29)) - 48) * (cdx ((((0 + 1)) + 1)) n fr ((R 29)) - 48)))).2.1, (spS (u1 (u1 (u1 (u1 (u1 (u1 (u1 (u1 F 12 0) 15 0) 16 0) 12 (0 + 1)) 12 (((0 + 1)) + 1)) 13 (cdx ((0 + 1)) n fr ((R 29)) - 48)) 12 (((((0 + 1)) + 1)) + 1)) 14 (cdx ((((0 + 1)) + 1)) n fr ((R 29)) - 48)) R fr n (Int.toNat ((cdx ((0 + 1)) n fr ((R 29)) - 48) * (cdx ((((0 + 1)) + 1)) n fr ((R 29)) - 48)))).2.2) := by rw [k_X4_readsTown, (if_pos h23), (if_pos hd1), (if_pos hd2), (if_neg (h146)), (if_pos h154)]
                          exact hret _ ((spS (u1 (u1 (u1 (u1 (u1 (u1 (u1 (u1 F 12 0) 15 0) 16 0) 12 (0 + 1)) 12 (((0 + 1)) + 1)) 13 (cdx ((0 + 1)) n fr ((R 29)) - 48)) 12 (((((0 + 1)) + 1)) + 1)) 14 (cdx ((((0 + 1)) + 1)) n fr ((R 29)) - 48)) R fr n (Int.toNat ((cdx ((0 + 1)) n fr ((R 29)) - 48) * (cdx ((((0 + 1)) + 1)) n fr ((R 29)) - 48)))).2.1, (spS (u1 (u1 (u1 (u1 (u1 (u1 (u1 (u1 F 12 0) 15 0) 16 0) 12 (0 + 1)) 12 (((0 + 1)) + 1)) 13 (cdx ((0 + 1)) n fr ((R 29)) - 48)) 12 (((((0 + 1)) + 1)) + 1)) 14 (cdx ((((0 + 1)) + 1)) n fr ((R 29)) - 48)) R fr n (Int.toNat ((cdx ((0 + 1)) n fr ((R 29)) - 48) * (cdx ((((0 + 1)) + 1)) n fr ((R 29)) - 48)))).2.2) _ _ _ _ dX4_readsTown_162 (by decide +kernel) ⟨by rw [hk9], by rw [hk9], by rw [hk9]⟩ hP hS
                    · skip
                      have hw13 := hkp.1 13 (by decide) (by decide) (by decide)
                      have hw14 := hkp.1 14 (by decide) (by decide) (by decide)
                      refine lv_iload hx hb dX4_readsTown_116 (lv_at hl 0 rfl) ?_
                      refine lv_aload_n hx hb dX4_readsTown_118 rfl (lv_at hl 2 rfl) ?_
                      refine fg_M_readHigh C hin4 hE hP (v := F1 13) (List.mem_of_getElem? (i := 4) rfl) dX4_readsTown_119 rfl ?_
                      refine lv_aload_n hx hb dX4_readsTown_122 rfl (lv_at hl 2 rfl) ?_
                      refine fg_M_readWide C hin4 hE hP (v := F1 14) (List.mem_of_getElem? (i := 5) rfl) dX4_readsTown_123 rfl ?_
                      refine jz_imul C dX4_readsTown_126 ?_
                      have hw15 : F1 13 * F1 14 = (cdx ((0 + 1)) n fr ((R 29)) - 48) * (cdx ((((0 + 1)) + 1)) n fr ((R 29)) - 48) := by rw [hw13, hw14]; rfl
                      rw [hw15]
                      refine jz_icmp_ge (tgt := 145) C dX4_readsTown_127 (by decide) (by omega) (fun h127 => ?_) (fun h127 => ?_)
                      · skip
                        have hXe : (spS (u1 (u1 (u1 (u1 (u1 (u1 (u1 (u1 F 12 0) 15 0) 16 0) 12 (0 + 1)) 12 (((0 + 1)) + 1)) 13 (cdx ((0 + 1)) n fr ((R 29)) - 48)) 12 (((((0 + 1)) + 1)) + 1)) 14 (cdx ((((0 + 1)) + 1)) n fr ((R 29)) - 48)) R fr n (Int.toNat ((cdx ((0 + 1)) n fr ((R 29)) - 48) * (cdx ((((0 + 1)) + 1)) n fr ((R 29)) - 48)))) = (x, F1, R1) := by
                          first | exact (spS_0 (c := c) (by rw [hS8]; exact h113) _ (by omega)).trans hS8 | (rw [show Int.toNat ((cdx ((0 + 1)) n fr ((R 29)) - 48) * (cdx ((((0 + 1)) + 1)) n fr ((R 29)) - 48)) = c by omega]; exact hS8)
                        have hBX := (spS_ok hB0 (Int.toNat ((cdx ((0 + 1)) n fr ((R 29)) - 48) * (cdx ((((0 + 1)) + 1)) n fr ((R 29)) - 48)))).2.1
                        have hX1 := (spS_ok hB0 (Int.toNat ((cdx ((0 + 1)) n fr ((R 29)) - 48) * (cdx ((((0 + 1)) + 1)) n fr ((R 29)) - 48)))).1
                        have hXpl := hBX.1
                        have hg9 : F1 = (spS (u1 (u1 (u1 (u1 (u1 (u1 (u1 (u1 F 12 0) 15 0) 16 0) 12 (0 + 1)) 12 (((0 + 1)) + 1)) 13 (cdx ((0 + 1)) n fr ((R 29)) - 48)) 12 (((((0 + 1)) + 1)) + 1)) 14 (cdx ((((0 + 1)) + 1)) n fr ((R 29)) - 48)) R fr n (Int.toNat ((cdx ((0 + 1)) n fr ((R 29)) - 48) * (cdx ((((0 + 1)) + 1)) n fr ((R 29)) - 48)))).2.1 := by rw [hXe]
                        rw [hg9] at hP
                        have hg9 : R1 = (spS (u1 (u1 (u1 (u1 (u1 (u1 (u1 (u1 F 12 0) 15 0) 16 0) 12 (0 + 1)) 12 (((0 + 1)) + 1)) 13 (cdx ((0 + 1)) n fr ((R 29)) - 48)) 12 (((((0 + 1)) + 1)) + 1)) 14 (cdx ((((0 + 1)) + 1)) n fr ((R 29)) - 48)) R fr n (Int.toNat ((cdx ((0 + 1)) n fr ((R 29)) - 48) * (cdx ((((0 + 1)) + 1)) n fr ((R 29)) - 48)))).2.2 := by rw [hXe]
                        rw [hg9] at hP
                        have hl : lv_has ls 5 [(4, .int (iI ((c : Int)))), (3, .int (iI ((spS (u1 (u1 (u1 (u1 (u1 (u1 (u1 (u1 F 12 0) 15 0) 16 0) 12 (0 + 1)) 12 (((0 + 1)) + 1)) 13 (cdx ((0 + 1)) n fr ((R 29)) - 48)) 12 (((((0 + 1)) + 1)) + 1)) 14 (cdx ((((0 + 1)) + 1)) n fr ((R 29)) - 48)) R fr n (Int.toNat ((cdx ((0 + 1)) n fr ((R 29)) - 48) * (cdx ((((0 + 1)) + 1)) n fr ((R 29)) - 48)))).1))), (0, .ref (ad 0)), (1, .int (iI (fr))), (2, .int (iI (n)))] := by
                          rw [show ((spS (u1 (u1 (u1 (u1 (u1 (u1 (u1 (u1 F 12 0) 15 0) 16 0) 12 (0 + 1)) 12 (((0 + 1)) + 1)) 13 (cdx ((0 + 1)) n fr ((R 29)) - 48)) 12 (((((0 + 1)) + 1)) + 1)) 14 (cdx ((((0 + 1)) + 1)) n fr ((R 29)) - 48)) R fr n (Int.toNat ((cdx ((0 + 1)) n fr ((R 29)) - 48) * (cdx ((((0 + 1)) + 1)) n fr ((R 29)) - 48)))).1 : Int) = x from by rw [hXe]]
                          exact hl
                        refine lv_iload_n hx hb dX4_readsTown_145 rfl (lv_at hl 1 rfl) ?_
                        refine jz_if_eq (tgt := 161) C dX4_readsTown_146 (by decide) (by omega) (fun h146 => ?_) (fun h146 => ?_)
                        · skip
                          refine jz_const C dX4_readsTown_161 ?_
                          have hk9 : k_X4_readsTown F R fr n = (0, (spS (u1 (u1 (u1 (u1 (u1 (u1 (u1 (u1 F 12 0) 15 0) 16 0) 12 (0 + 1)) 12 (((0 + 1)) + 1)) 13 (cdx ((0 + 1)) n fr ((R 29)) - 48)) 12 (((((0 + 1)) + 1)) + 1)) 14 (cdx ((((0 + 1)) + 1)) n fr ((R 29)) - 48)) R fr n (Int.toNat ((cdx ((0 + 1)) n fr ((R 29)) - 48) * (cdx ((((0 + 1)) + 1)) n fr ((R 29)) - 48)))).2.1, (spS (u1 (u1 (u1 (u1 (u1 (u1 (u1 (u1 F 12 0) 15 0) 16 0) 12 (0 + 1)) 12 (((0 + 1)) + 1)) 13 (cdx ((0 + 1)) n fr ((R 29)) - 48)) 12 (((((0 + 1)) + 1)) + 1)) 14 (cdx ((((0 + 1)) + 1)) n fr ((R 29)) - 48)) R fr n (Int.toNat ((cdx ((0 + 1)) n fr ((R 29)) - 48) * (cdx ((((0 + 1)) + 1)) n fr ((R 29)) - 48)))).2.2) := by rw [k_X4_readsTown, (if_pos h23), (if_pos hd1), (if_pos hd2), (if_pos h146)]
                          exact hret _ ((spS (u1 (u1 (u1 (u1 (u1 (u1 (u1 (u1 F 12 0) 15 0) 16 0) 12 (0 + 1)) 12 (((0 + 1)) + 1)) 13 (cdx ((0 + 1)) n fr ((R 29)) - 48)) 12 (((((0 + 1)) + 1)) + 1)) 14 (cdx ((((0 + 1)) + 1)) n fr ((R 29)) - 48)) R fr n (Int.toNat ((cdx ((0 + 1)) n fr ((R 29)) - 48) * (cdx ((((0 + 1)) + 1)) n fr ((R 29)) - 48)))).2.1, (spS (u1 (u1 (u1 (u1 (u1 (u1 (u1 (u1 F 12 0) 15 0) 16 0) 12 (0 + 1)) 12 (((0 + 1)) + 1)) 13 (cdx ((0 + 1)) n fr ((R 29)) - 48)) 12 (((((0 + 1)) + 1)) + 1)) 14 (cdx ((((0 + 1)) + 1)) n fr ((R 29)) - 48)) R fr n (Int.toNat ((cdx ((0 + 1)) n fr ((R 29)) - 48) * (cdx ((((0 + 1)) + 1)) n fr ((R 29)) - 48)))).2.2) _ _ _ _ dX4_readsTown_162 (by decide +kernel) ⟨by rw [hk9], by rw [hk9], by rw [hk9]⟩ hP hS
                        · skip
                          refine lv_aload_n hx hb dX4_readsTown_149 rfl (lv_at hl 2 rfl) ?_
                          refine fg_M_readAt C hin4 hE hP (v := ((spS (u1 (u1 (u1 (u1 (u1 (u1 (u1 (u1 F 12 0) 15 0) 16 0) 12 (0 + 1)) 12 (((0 + 1)) + 1)) 13 (cdx ((0 + 1)) n fr ((R 29)) - 48)) 12 (((((0 + 1)) + 1)) + 1)) 14 (cdx ((((0 + 1)) + 1)) n fr ((R 29)) - 48)) R fr n (Int.toNat ((cdx ((0 + 1)) n fr ((R 29)) - 48) * (cdx ((((0 + 1)) + 1)) n fr ((R 29)) - 48)))).2.1) 12) (List.mem_of_getElem? (i := 1) rfl) dX4_readsTown_150 rfl ?_
                          refine lv_iload_n hx hb dX4_readsTown_153 rfl (lv_at hl 4 rfl) ?_
                          refine jz_icmp_ne (tgt := 161) C dX4_readsTown_154 (by decide) (by omega) (fun h154 => ?_) (fun h154 => ?_)
                          · skip
                            refine jz_const C dX4_readsTown_161 ?_
                            have hk9 : k_X4_readsTown F R fr n = (0, (spS (u1 (u1 (u1 (u1 (u1 (u1 (u1 (u1 F 12 0) 15 0) 16 0) 12 (0 + 1)) 12 (((0 + 1)) + 1)) 13 (cdx ((0 + 1)) n fr ((R 29)) - 48)) 12 (((((0 + 1)) + 1)) + 1)) 14 (cdx ((((0 + 1)) + 1)) n fr ((R 29)) - 48)) R fr n (Int.toNat ((cdx ((0 + 1)) n fr ((R 29)) - 48) * (cdx ((((0 + 1)) + 1)) n fr ((R 29)) - 48)))).2.1, (spS (u1 (u1 (u1 (u1 (u1 (u1 (u1 (u1 F 12 0) 15 0) 16 0) 12 (0 + 1)) 12 (((0 + 1)) + 1)) 13 (cdx ((0 + 1)) n fr ((R 29)) - 48)) 12 (((((0 + 1)) + 1)) + 1)) 14 (cdx ((((0 + 1)) + 1)) n fr ((R 29)) - 48)) R fr n (Int.toNat ((cdx ((0 + 1)) n fr ((R 29)) - 48) * (cdx ((((0 + 1)) + 1)) n fr ((R 29)) - 48)))).2.2) := by rw [k_X4_readsTown, (if_pos h23), (if_pos hd1), (if_pos hd2), (if_neg (h146)), (if_neg (h154))]
                            exact hret _ ((spS (u1 (u1 (u1 (u1 (u1 (u1 (u1 (u1 F 12 0) 15 0) 16 0) 12 (0 + 1)) 12 (((0 + 1)) + 1)) 13 (cdx ((0 + 1)) n fr ((R 29)) - 48)) 12 (((((0 + 1)) + 1)) + 1)) 14 (cdx ((((0 + 1)) + 1)) n fr ((R 29)) - 48)) R fr n (Int.toNat ((cdx ((0 + 1)) n fr ((R 29)) - 48) * (cdx ((((0 + 1)) + 1)) n fr ((R 29)) - 48)))).2.1, (spS (u1 (u1 (u1 (u1 (u1 (u1 (u1 (u1 F 12 0) 15 0) 16 0) 12 (0 + 1)) 12 (((0 + 1)) + 1)) 13 (cdx ((0 + 1)) n fr ((R 29)) - 48)) 12 (((((0 + 1)) + 1)) + 1)) 14 (cdx ((((0 + 1)) + 1)) n fr ((R 29)) - 48)) R fr n (Int.toNat ((cdx ((0 + 1)) n fr ((R 29)) - 48) * (cdx ((((0 + 1)) + 1)) n fr ((R 29)) - 48)))).2.2) _ _ _ _ dX4_readsTown_162 (by decide +kernel) ⟨by rw [hk9], by rw [hk9], by rw [hk9]⟩ hP hS
                          · skip
                            refine jz_const C dX4_readsTown_157 ?_
                            refine lv_goto (tgt := 162) hx hb dX4_readsTown_158 (by decide) ?_
                            have hk9 : k_X4_readsTown F R fr n = (1, (spS (u1 (u1 (u1 (u1 (u1 (u1 (u1 (u1 F 12 0) 15 0) 16 0) 12 (0 + 1)) 12 (((0 + 1)) + 1)) 13 (cdx ((0 + 1)) n fr ((R 29)) - 48)) 12 (((((0 + 1)) + 1)) + 1)) 14 (cdx ((((0 + 1)) + 1)) n fr ((R 29)) - 48)) R fr n (Int.toNat ((cdx ((0 + 1)) n fr ((R 29)) - 48) * (cdx ((((0 + 1)) + 1)) n fr ((R 29)) - 48)))).2.1, (spS (u1 (u1 (u1 (u1 (u1 (u1 (u1 (u1 F 12 0) 15 0) 16 0) 12 (0 + 1)) 12 (((0 + 1)) + 1)) 13 (cdx ((0 + 1)) n fr ((R 29)) - 48)) 12 (((((0 + 1)) + 1)) + 1)) 14 (cdx ((((0 + 1)) + 1)) n fr ((R 29)) - 48)) R fr n (Int.toNat ((cdx ((0 + 1)) n fr ((R 29)) - 48) * (cdx ((((0 + 1)) + 1)) n fr ((R 29)) - 48)))).2.2) := by rw [k_X4_readsTown, (if_pos h23), (if_pos hd1), (if_pos hd2), (if_neg (h146)), (if_pos h154)]
                            exact hret _ ((spS (u1 (u1 (u1 (u1 (u1 (u1 (u1 (u1 F 12 0) 15 0) 16 0) 12 (0 + 1)) 12 (((0 + 1)) + 1)) 13 (cdx ((0 + 1)) n fr ((R 29)) - 48)) 12 (((((0 + 1)) + 1)) + 1)) 14 (cdx ((((0 + 1)) + 1)) n fr ((R 29)) - 48)) R fr n (Int.toNat ((cdx ((0 + 1)) n fr ((R 29)) - 48) * (cdx ((((0 + 1)) + 1)) n fr ((R 29)) - 48)))).2.1, (spS (u1 (u1 (u1 (u1 (u1 (u1 (u1 (u1 F 12 0) 15 0) 16 0) 12 (0 + 1)) 12 (((0 + 1)) + 1)) 13 (cdx ((0 + 1)) n fr ((R 29)) - 48)) 12 (((((0 + 1)) + 1)) + 1)) 14 (cdx ((((0 + 1)) + 1)) n fr ((R 29)) - 48)) R fr n (Int.toNat ((cdx ((0 + 1)) n fr ((R 29)) - 48) * (cdx ((((0 + 1)) + 1)) n fr ((R 29)) - 48)))).2.2) _ _ _ _ dX4_readsTown_162 (by decide +kernel) ⟨by rw [hk9], by rw [hk9], by rw [hk9]⟩ hP hS
                      · skip
                        refine lv_aload_n hx hb dX4_readsTown_130 rfl (lv_at hl 2 rfl) ?_
                        refine lv_iload_n hx hb dX4_readsTown_131 rfl (lv_at hl 3 rfl) ?_
                        refine lv_iload_n hx hb dX4_readsTown_132 rfl (lv_at hl 4 rfl) ?_
                        refine lv_iload hx hb dX4_readsTown_133 (lv_at hl 0 rfl) ?_
                        refine jw_V C hl.1 (jpreV hE hP 4 0 rfl rfl) (c_X4_readsSpot (A := A) (jDM hD) fr n (c : Int) (show BM F1 R1 n fr from (by omega)) (show 0 ≤ (c : Int) ∧ (c : Int) < 24 from (by omega))) (cwV 3 C.2.2.2.2 gX4_readsTown_X4_readsSpot rfl rfl rfl (by decide +kernel) ⟨Nat.le_of_ble_eq_true rfl, Nat.le_of_ble_eq_true rfl⟩) (As := [.int (iI (fr)), .int (iI (n)), .int (iI ((c : Int)))]) (hn := rfl) (hst := rfl) (rest := []) (hW := Nat.le_of_ble_eq_true rfl) (hdg := dX4_readsTown_135) (hf := ⟨Nat.le_of_ble_eq_true rfl, Nat.le_of_ble_eq_true rfl⟩) hS (fun v9 uq135 H lc hq9 hP hS => ?_)
                        obtain ⟨F135, R135⟩ := uq135
                        obtain ⟨hv9, hI9, hR9⟩ := hq9
                        subst hv9
                        dsimp only at hI9 hR9
                        subst hI9
                        subst hR9
                        have hP : va_P D vwCl (wM cI ad (k_X4_readsSpot F1 R1 fr n (c : Int)).2.1 (k_X4_readsSpot F1 R1 fr n (c : Int)).2.2) H := hP
                        refine lv_istore_n (lv' := [(3, .int (iI ((k_X4_readsSpot F1 R1 fr n (c : Int)).1))), (4, .int (iI ((c : Int)))), (0, .ref (ad 0)), (1, .int (iI (fr))), (2, .int (iI (n)))]) hx hb dX4_readsTown_138 rfl hl (by decide) rfl (fun ls hl => ?_)
                        refine jz_iinc (k := 1) (z := (c : Int) + 1) (lv' := [(4, .int (iI ((c : Int) + 1))), (3, .int (iI ((k_X4_readsSpot F1 R1 fr n (c : Int)).1))), (0, .ref (ad 0)), (1, .int (iI (fr))), (2, .int (iI (n)))]) C dX4_readsTown_139 hl rfl rfl (by decide) rfl (fun ls hl => ?_)
                        refine lv_goto (tgt := 112) hx hb dX4_readsTown_142 (by decide) ?_
                        exact ih112 (c + 1) ((k_X4_readsSpot F1 R1 fr n (c : Int)).1) ((k_X4_readsSpot F1 R1 fr n (c : Int)).2.1) ((k_X4_readsSpot F1 R1 fr n (c : Int)).2.2) (by omega) (by rw [spS_s (show spS _ R fr n c = (1, F1, R1) by rw [hS8, hx01.resolve_left h113])]) (spot_ok hB1).2.1 (spot_ok hB1).1 (hkp.tr (spot_ok hB1).2.2) (by omega) _ _ hP hS ls (lv_sub hl [0, 1, 2, 3, 4] rfl)
                exact key112 (Int.toNat (((cdx ((0 + 1)) n fr ((R 29)) - 48) * (cdx ((((0 + 1)) + 1)) n fr ((R 29)) - 48)) - (0 : Int)) + 1) 0 1 (u1 (u1 (u1 (u1 (u1 (u1 (u1 (u1 F 12 0) 15 0) 16 0) 12 (0 + 1)) 12 (((0 + 1)) + 1)) 13 (cdx ((0 + 1)) n fr ((R 29)) - 48)) 12 (((((0 + 1)) + 1)) + 1)) 14 (cdx ((((0 + 1)) + 1)) n fr ((R 29)) - 48)) R (by omega) rfl hB0 (Or.inr rfl) keM.rf (by omega) _ _ hP hS ls (lv_sub hl [0, 1, 2, 3, 4] rfl)
            · skip
              refine jw_V C hl.1 (jpreV hE hP 4 0 rfl rfl) (c_X4_figureF (A := A) (jDM hD) fr n 2 6 (show 0 ≤ (((0 + 1)) + 1) from (by omega)) hfr hT (show (((0 + 1)) + 1) ≤ 240 from (by omega)) (by decide) (show ¬ (48 + 2 ≤ cdx (((0 + 1)) + 1) n fr (R 29) ∧ cdx (((0 + 1)) + 1) n fr (R 29) ≤ 48 + 6) from (by omega))) (cwV 4 C.2.2.2.2 gX4_readsTown_X4_figure rfl rfl rfl (by decide +kernel) ⟨Nat.le_of_ble_eq_true rfl, Nat.le_of_ble_eq_true rfl⟩) (As := [.int (iI (fr)), .int (iI (n)), .int (iI (2)), .int (iI (6))]) (hn := rfl) (hst := rfl) (rest := [.ref (ad 0)]) (hW := Nat.le_of_ble_eq_true rfl) (hdg := dX4_readsTown_85) (hf := ⟨Nat.le_of_ble_eq_true rfl, Nat.le_of_ble_eq_true rfl⟩) hS (fun v9 uq85 H lc hq9 hP hS => ?_)
              obtain rfl : v9 = some (.int (iI (-9))) := hq9
              have hP : va_P D vwCl (wM cI ad (u1 (u1 (u1 (u1 (u1 (u1 (u1 F 12 0) 15 0) 16 0) 12 (0 + 1)) 12 (((0 + 1)) + 1)) 13 (cdx ((0 + 1)) n fr ((R 29)) - 48)) 12 (((((0 + 1)) + 1)) + 0)) R) H := hP
              refine lv_goto (tgt := 93) hx hb dX4_readsTown_88 (by decide) ?_
              refine fp_M_readWide C hin4 hE hP (jDM hD) hS (List.mem_of_getElem? (i := 5) rfl) dX4_readsTown_93 (fun H lc hP hS => ?_)
              refine lv_aload_n hx hb dX4_readsTown_96 rfl (lv_at hl 1 rfl) ?_
              refine fg_M_readWide C hin4 hE hP (v := -9) (List.mem_of_getElem? (i := 5) rfl) dX4_readsTown_97 rfl ?_
              refine jz_if_le (tgt := 107) C dX4_readsTown_100 (by decide) (by omega) (fun h100 => ?_) (fun h100 => ?_)
              · skip
                refine jz_const C dX4_readsTown_107 ?_
                refine lv_istore_n (lv' := [(3, .int (iI (0))), (0, .ref (ad 0)), (1, .int (iI (fr))), (2, .int (iI (n)))]) hx hb dX4_readsTown_108 rfl hl (by decide) rfl (fun ls hl => ?_)
                refine jz_const C dX4_readsTown_109 ?_
                refine lv_istore (lv' := [(4, .int (iI (0))), (3, .int (iI (0))), (0, .ref (ad 0)), (1, .int (iI (fr))), (2, .int (iI (n)))]) hx hb dX4_readsTown_110 hl (by decide) rfl (fun ls hl => ?_)
                refine lv_iload_n hx hb dX4_readsTown_112 rfl (lv_at hl 1 rfl) ?_
                refine jz_if_eq (tgt := 145) C dX4_readsTown_113 (by decide) (by omega) (fun h113 => ?_) (fun h113 => ?_)
                · skip
                  refine lv_iload_n hx hb dX4_readsTown_145 rfl (lv_at hl 1 rfl) ?_
                  refine jz_if_eq (tgt := 161) C dX4_readsTown_146 (by decide) (by omega) (fun h146 => ?_) (fun h146 => ?_)
                  · skip
                    refine jz_const C dX4_readsTown_161 ?_
                    have hk9 : k_X4_readsTown F R fr n = (0, (u1 (u1 (u1 (u1 (u1 (u1 (u1 (u1 F 12 0) 15 0) 16 0) 12 (0 + 1)) 12 (((0 + 1)) + 1)) 13 (cdx ((0 + 1)) n fr ((R 29)) - 48)) 12 (((((0 + 1)) + 1)) + 0)) 14 (-9)), R) := by rw [k_X4_readsTown, (if_pos h23), (if_pos hd1), (if_neg hd2)]
                    exact hret _ ((u1 (u1 (u1 (u1 (u1 (u1 (u1 (u1 F 12 0) 15 0) 16 0) 12 (0 + 1)) 12 (((0 + 1)) + 1)) 13 (cdx ((0 + 1)) n fr ((R 29)) - 48)) 12 (((((0 + 1)) + 1)) + 0)) 14 (-9)), R) _ _ _ _ dX4_readsTown_162 (by decide +kernel) ⟨by rw [hk9], by rw [hk9], by rw [hk9]⟩ hP hS
                  · exact absurd h146 (by decide)
                · exact absurd h113 (by decide)
              · exact absurd h100 (by decide)
        · skip
          refine jw_V C hl.1 (jpreV hE hP 4 0 rfl rfl) (c_X4_figureF (A := A) (jDM hD) fr n 1 4 (show 0 ≤ (0 + 1) from (by omega)) hfr hT (show (0 + 1) ≤ 240 from (by omega)) (by decide) (show ¬ (48 + 1 ≤ cdx (0 + 1) n fr (R 29) ∧ cdx (0 + 1) n fr (R 29) ≤ 48 + 4) from (by omega))) (cwV 4 C.2.2.2.2 gX4_readsTown_X4_figure rfl rfl rfl (by decide +kernel) ⟨Nat.le_of_ble_eq_true rfl, Nat.le_of_ble_eq_true rfl⟩) (As := [.int (iI (fr)), .int (iI (n)), .int (iI (1)), .int (iI (4))]) (hn := rfl) (hst := rfl) (rest := [.ref (ad 0)]) (hW := Nat.le_of_ble_eq_true rfl) (hdg := dX4_readsTown_60) (hf := ⟨Nat.le_of_ble_eq_true rfl, Nat.le_of_ble_eq_true rfl⟩) hS (fun v9 uq60 H lc hq9 hP hS => ?_)
          obtain rfl : v9 = some (.int (iI (-9))) := hq9
          have hP : va_P D vwCl (wM cI ad (u1 (u1 (u1 (u1 (u1 F 12 0) 15 0) 16 0) 12 (0 + 1)) 12 (((0 + 1)) + 0)) R) H := hP
          refine lv_goto (tgt := 68) hx hb dX4_readsTown_63 (by decide) ?_
          refine fp_M_readHigh C hin4 hE hP (jDM hD) hS (List.mem_of_getElem? (i := 4) rfl) dX4_readsTown_68 (fun H lc hP hS => ?_)
          refine lv_aload_n hx hb dX4_readsTown_71 rfl (lv_at hl 1 rfl) ?_
          refine lv_aload_n hx hb dX4_readsTown_72 rfl (lv_at hl 1 rfl) ?_
          refine fg_M_readHigh C hin4 hE hP (v := -9) (List.mem_of_getElem? (i := 4) rfl) dX4_readsTown_73 rfl ?_
          refine jz_if_le (tgt := 91) C dX4_readsTown_76 (by decide) (by omega) (fun h76 => ?_) (fun h76 => ?_)
          · skip
            refine jz_bipush C dX4_readsTown_91 (by decide +kernel) ?_
            refine fp_M_readWide C hin4 hE hP (jDM hD) hS (List.mem_of_getElem? (i := 5) rfl) dX4_readsTown_93 (fun H lc hP hS => ?_)
            refine lv_aload_n hx hb dX4_readsTown_96 rfl (lv_at hl 1 rfl) ?_
            refine fg_M_readWide C hin4 hE hP (v := -9) (List.mem_of_getElem? (i := 5) rfl) dX4_readsTown_97 rfl ?_
            refine jz_if_le (tgt := 107) C dX4_readsTown_100 (by decide) (by omega) (fun h100 => ?_) (fun h100 => ?_)
            · skip
              refine jz_const C dX4_readsTown_107 ?_
              refine lv_istore_n (lv' := [(3, .int (iI (0))), (0, .ref (ad 0)), (1, .int (iI (fr))), (2, .int (iI (n)))]) hx hb dX4_readsTown_108 rfl hl (by decide) rfl (fun ls hl => ?_)
              refine jz_const C dX4_readsTown_109 ?_
              refine lv_istore (lv' := [(4, .int (iI (0))), (3, .int (iI (0))), (0, .ref (ad 0)), (1, .int (iI (fr))), (2, .int (iI (n)))]) hx hb dX4_readsTown_110 hl (by decide) rfl (fun ls hl => ?_)
              refine lv_iload_n hx hb dX4_readsTown_112 rfl (lv_at hl 1 rfl) ?_
              refine jz_if_eq (tgt := 145) C dX4_readsTown_113 (by decide) (by omega) (fun h113 => ?_) (fun h113 => ?_)
              · skip
                refine lv_iload_n hx hb dX4_readsTown_145 rfl (lv_at hl 1 rfl) ?_
                refine jz_if_eq (tgt := 161) C dX4_readsTown_146 (by decide) (by omega) (fun h146 => ?_) (fun h146 => ?_)
                · skip
                  refine jz_const C dX4_readsTown_161 ?_
                  have hk9 : k_X4_readsTown F R fr n = (0, (u1 (u1 (u1 (u1 (u1 (u1 (u1 F 12 0) 15 0) 16 0) 12 (0 + 1)) 12 (((0 + 1)) + 0)) 13 (-9)) 14 (-9)), R) := by rw [k_X4_readsTown, (if_pos h23), (if_neg hd1)]
                  exact hret _ ((u1 (u1 (u1 (u1 (u1 (u1 (u1 F 12 0) 15 0) 16 0) 12 (0 + 1)) 12 (((0 + 1)) + 0)) 13 (-9)) 14 (-9)), R) _ _ _ _ dX4_readsTown_162 (by decide +kernel) ⟨by rw [hk9], by rw [hk9], by rw [hk9]⟩ hP hS
                · exact absurd h146 (by decide)
              · exact absurd h113 (by decide)
            · exact absurd h100 (by decide)
          · exact absurd h76 (by decide)
