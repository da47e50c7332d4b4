theorem List.set_self9 {α : Type _} {l : List α} {q : Nat} {x : α} (h : l[q]? = some x) : l.set q x = l := by
  apply List.ext_getElem?
  intro i
  by_cases e : i = q
  · subst e; rw [List.getElem?_set_self (List.getElem?_eq_some_iff.mp h).1, h]
  · rw [List.getElem?_set_ne (Ne.symm e)]
theorem setmap9 {l : va_W} {q a : Nat} {x y : va_E} (h : l[q]? = some (a, x)) : l.map (fun p => p.1) = (l.set q (a, y)).map (fun p => p.1) := by
  rw [List.map_set]
  exact (List.set_self9 (by rw [List.getElem?_map, h]; rfl)).symm
abbrev rm_X0_hasRow : Room := { frames := 0, cells := 0, slots := 0, locals := 0 }
set_option maxHeartbeats 4000000 in
set_option maxRecDepth 100000 in
theorem c_X0_hasRow {l : Launch} {D : va_G} {cI cS : ClassId} {ad : Nat → Nat} {I R : Nat → Nat → Int}   (k : Nat) (hk : k < 4) (hln : -2147483648 ≤ I 25 k ∧ I 25 k < 2147483648): JS l yX0_hasRow wsX0_hasRow rm_X0_hasRow (jB D cI cS (wC cI cS ad I R)) [.ref (ad (25 + 2 * k))] (.int (iI (if ¬ I 25 k = -1 then 1 else 0))) := by
  refine JS.mkZ rfl (by decide +kernel) rfl (Nat.le_of_ble_eq_true rfl) (jz_nz _) ?_
  intro p e st mi ar bl mth cd Q ls C hB hl hret
  obtain ⟨hE, hP⟩ := hB
  have hx := C.1
  have hb := C.2.1
  have hl : lv_has ls 1 [(0, .ref (ad (25 + 2 * k)))] := hl
  have hin0 : ∀ w ∈ wsX00, w ∈ wsX0_hasRow := fun _ h => List.mem_cons_of_mem _ (List.mem_append_right _ h)
  refine lv_aload_n hx hb dX0_hasRow_0 rfl (lv_at hl 0 rfl) ?_
  refine fg_H_lane C hin0 hE (by omega) hP (v := I 25 k) (List.mem_of_getElem? (i := 1) rfl) dX0_hasRow_1 rfl ?_
  refine jz_const C dX0_hasRow_4 ?_
  refine jz_icmp_eq (tgt := 12) C dX0_hasRow_5 (by decide) (by omega) (fun h5 => ?_) (fun h5 => ?_)
  · skip
    refine jz_const C dX0_hasRow_12 ?_
    exact jz_ret (show ((if ¬ I 25 k = -1 then 1 else 0) : Int) = 0 from by first | rfl | omega | (rw [if_pos (by omega)]) | (rw [if_neg (by omega)]) | (simp [*]; done)) (hret _ _ dX0_hasRow_13)
  · skip
    refine jz_const C dX0_hasRow_8 ?_
    refine lv_goto (tgt := 13) hx hb dX0_hasRow_9 (by decide) ?_
    exact jz_ret (show ((if ¬ I 25 k = -1 then 1 else 0) : Int) = 1 from by first | rfl | omega | (rw [if_pos (by omega)]) | (rw [if_neg (by omega)]) | (simp [*]; done)) (hret _ _ dX0_hasRow_13)
abbrev rm_X0_holds : Room := { frames := 0, cells := 0, slots := 0, locals := 0 }
set_option maxHeartbeats 4000000 in
set_option maxRecDepth 100000 in
theorem c_X0_holds {l : Launch} {D : va_G} {cI cS : ClassId} {ad : Nat → Nat} {I R : Nat → Nat → Int}  (i : Int) (n : Int) (k : Nat) (hk : k < 4) (hsz : 0 ≤ I 26 k ∧ I 26 k ≤ 60) (hi : -2147483648 ≤ i ∧ i < 2147483648) (hn : -2147483648 ≤ n ∧ n < 2147483648): JS l yX0_holds wsX0_holds rm_X0_holds (jB D cI cS (wC cI cS ad I R)) [.ref (ad (25 + 2 * k)), .int (iI (i)), .int (iI (n))] (.int (iI (if 0 ≤ i ∧ i ≤ I 26 k ∧ 0 ≤ n ∧ n ≤ I 26 k - i then 1 else 0))) := by
  refine JS.mkZ rfl (by decide +kernel) rfl (Nat.le_of_ble_eq_true rfl) (jz_nz _) ?_
  intro p e st mi ar bl mth cd Q ls C hB hl hret
  obtain ⟨hE, hP⟩ := hB
  have hx := C.1
  have hb := C.2.1
  have hl : lv_has ls 3 [(0, .ref (ad (25 + 2 * k))), (1, .int (iI (i))), (2, .int (iI (n)))] := hl
  have hin0 : ∀ w ∈ wsX00, w ∈ wsX0_holds := fun _ h => List.mem_cons_of_mem _ (List.mem_append_right _ h)
  refine lv_iload_n hx hb dX0_holds_0 rfl (lv_at hl 1 rfl) ?_
  refine jz_if_lt (tgt := 30) C dX0_holds_1 (by decide) (by omega) (fun h1 => ?_) (fun h1 => ?_)
  · skip
    refine jz_const C dX0_holds_30 ?_
    exact jz_ret (show ((if 0 ≤ i ∧ i ≤ I 26 k ∧ 0 ≤ n ∧ n ≤ I 26 k - i then 1 else 0) : Int) = 0 from by first | rfl | omega | (rw [if_pos (by omega)]) | (rw [if_neg (by omega)]) | (simp [*]; done)) (hret _ _ dX0_holds_31)
  · skip
    refine lv_iload_n hx hb dX0_holds_4 rfl (lv_at hl 1 rfl) ?_
    refine lv_aload_n hx hb dX0_holds_5 rfl (lv_at hl 0 rfl) ?_
    refine fg_H_size C hin0 hE (by omega) hP (v := I 26 k) (List.mem_of_getElem? (i := 1) rfl) dX0_holds_6 rfl ?_
    refine jz_icmp_gt (tgt := 30) C dX0_holds_9 (by decide) (by omega) (fun h9 => ?_) (fun h9 => ?_)
    · skip
      refine jz_const C dX0_holds_30 ?_
      exact jz_ret (show ((if 0 ≤ i ∧ i ≤ I 26 k ∧ 0 ≤ n ∧ n ≤ I 26 k - i then 1 else 0) : Int) = 0 from by first | rfl | omega | (rw [if_pos (by omega)]) | (rw [if_neg (by omega)]) | (simp [*]; done)) (hret _ _ dX0_holds_31)
    · skip
      refine lv_iload_n hx hb dX0_holds_12 rfl (lv_at hl 2 rfl) ?_
      refine jz_if_lt (tgt := 30) C dX0_holds_13 (by decide) (by omega) (fun h13 => ?_) (fun h13 => ?_)
      · skip
        refine jz_const C dX0_holds_30 ?_
        exact jz_ret (show ((if 0 ≤ i ∧ i ≤ I 26 k ∧ 0 ≤ n ∧ n ≤ I 26 k - i then 1 else 0) : Int) = 0 from by first | rfl | omega | (rw [if_pos (by omega)]) | (rw [if_neg (by omega)]) | (simp [*]; done)) (hret _ _ dX0_holds_31)
      · skip
        refine lv_iload_n hx hb dX0_holds_16 rfl (lv_at hl 2 rfl) ?_
        refine lv_aload_n hx hb dX0_holds_17 rfl (lv_at hl 0 rfl) ?_
        refine fg_H_size C hin0 hE (by omega) hP (v := I 26 k) (List.mem_of_getElem? (i := 1) rfl) dX0_holds_18 rfl ?_
        refine lv_iload_n hx hb dX0_holds_21 rfl (lv_at hl 1 rfl) ?_
        refine jz_isub C dX0_holds_22 ?_
        refine jz_icmp_gt (tgt := 30) C dX0_holds_23 (by decide) (by omega) (fun h23 => ?_) (fun h23 => ?_)
        · skip
          refine jz_const C dX0_holds_30 ?_
          exact jz_ret (show ((if 0 ≤ i ∧ i ≤ I 26 k ∧ 0 ≤ n ∧ n ≤ I 26 k - i then 1 else 0) : Int) = 0 from by first | rfl | omega | (rw [if_pos (by omega)]) | (rw [if_neg (by omega)]) | (simp [*]; done)) (hret _ _ dX0_holds_31)
        · skip
          refine jz_const C dX0_holds_26 ?_
          refine lv_goto (tgt := 31) hx hb dX0_holds_27 (by decide) ?_
          exact jz_ret (show ((if 0 ≤ i ∧ i ≤ I 26 k ∧ 0 ≤ n ∧ n ≤ I 26 k - i then 1 else 0) : Int) = 1 from by first | rfl | omega | (rw [if_pos (by omega)]) | (rw [if_neg (by omega)]) | (simp [*]; done)) (hret _ _ dX0_holds_31)
abbrev rm_X0_faultOfTaking : Room := { frames := 1, cells := 0, slots := 0, locals := 22 }
set_option maxHeartbeats 4000000 in
set_option maxRecDepth 100000 in
theorem c_X0_faultOfTaking {l : Launch} {D : va_G} {cI cS : ClassId} {ad : Nat → Nat} {I R : Nat → Nat → Int}  (al : Int) (i : Int) (n : Int) (k : Nat) (hk : k < 4) (hln : -2147483648 ≤ I 25 k ∧ I 25 k < 2147483648) (hsz : 0 ≤ I 26 k ∧ I 26 k ≤ 60) (ha : -2147483648 ≤ al ∧ al < 2147483648) (hi : -2147483648 ≤ i ∧ i < 2147483648) (hn : -2147483648 ≤ n ∧ n < 2147483648): JS l yX0_faultOfTaking wsX0_faultOfTaking rm_X0_faultOfTaking (jB D cI cS (wC cI cS ad I R)) [.ref (ad (25 + 2 * k)), .int (iI (al)), .int (iI (i)), .int (iI (n))] (.int (iI (ft (I 25 k) (I 26 k) al i n))) := by
  refine JS.mkI rfl (by decide +kernel) rfl (Nat.le_of_ble_eq_true rfl) ?_
  intro p e st mi ar bl mth cd Q ls C hB hl hret
  obtain ⟨hE, hP⟩ := hB
  have hx := C.1
  have hb := C.2.1
  have hl : lv_has ls 4 [(0, .ref (ad (25 + 2 * k))), (1, .int (iI (al))), (2, .int (iI (i))), (3, .int (iI (n)))] := hl
  have hin0 : ∀ w ∈ wsX00, w ∈ wsX0_faultOfTaking := fun _ h => List.mem_cons_of_mem _ (List.mem_append_right _ h)
  refine lv_aload_n hx hb dX0_faultOfTaking_0 rfl (lv_at hl 0 rfl) ?_
  refine jc_V C hl.1 (jpreH hE hP (by omega)) (c_X0_hasRow k (show k < 4 from (by omega)) hln) (cwV 0 C.2.2.2.2 gX0_faultOfTaking_X0_hasRow rfl rfl rfl (by decide +kernel) ⟨Nat.le_of_ble_eq_true rfl, Nat.le_of_ble_eq_true rfl⟩) (As := []) (v := .int (iI (if ¬ I 25 k = -1 then 1 else 0))) (hn := rfl) (hst := rfl) (rest := []) (hW := Nat.le_of_ble_eq_true rfl) (hdg := dX0_faultOfTaking_1) (hf := ⟨Nat.le_of_ble_eq_true rfl, Nat.le_of_ble_eq_true rfl⟩) ?_
  refine jz_bool_ne (tgt := 9) C dX0_faultOfTaking_4 (by decide) (fun h4 => ?_) (fun h4 => ?_)
  · skip
    refine lv_aload_n hx hb dX0_faultOfTaking_9 rfl (lv_at hl 0 rfl) ?_
    refine fg_H_lane C hin0 hE (by omega) hP (v := I 25 k) (List.mem_of_getElem? (i := 1) rfl) dX0_faultOfTaking_10 rfl ?_
    refine lv_iload_n hx hb dX0_faultOfTaking_13 rfl (lv_at hl 1 rfl) ?_
    refine jz_icmp_eq (tgt := 19) C dX0_faultOfTaking_14 (by decide) (by omega) (fun h14 => ?_) (fun h14 => ?_)
    · skip
      refine lv_iload_n hx hb dX0_faultOfTaking_19 rfl (lv_at hl 3 rfl) ?_
      refine jz_if_ge (tgt := 25) C dX0_faultOfTaking_20 (by decide) (by omega) (fun h20 => ?_) (fun h20 => ?_)
      · skip
        refine lv_aload_n hx hb dX0_faultOfTaking_25 rfl (lv_at hl 0 rfl) ?_
        refine lv_iload_n hx hb dX0_faultOfTaking_26 rfl (lv_at hl 2 rfl) ?_
        refine lv_iload_n hx hb dX0_faultOfTaking_27 rfl (lv_at hl 3 rfl) ?_
        refine jc_V C hl.1 (jpreH hE hP (by omega)) (c_X0_holds i n k (show k < 4 from (by omega)) hsz (show -2147483648 ≤ i ∧ i < 2147483648 from (by omega)) (show -2147483648 ≤ n ∧ n < 2147483648 from (by omega))) (cwV 2 C.2.2.2.2 gX0_faultOfTaking_X0_holds rfl rfl rfl (by decide +kernel) ⟨Nat.le_of_ble_eq_true rfl, Nat.le_of_ble_eq_true rfl⟩) (As := [.int (iI (i)), .int (iI (n))]) (v := .int (iI (if 0 ≤ i ∧ i ≤ I 26 k ∧ 0 ≤ n ∧ n ≤ I 26 k - i then 1 else 0))) (hn := rfl) (hst := rfl) (rest := []) (hW := Nat.le_of_ble_eq_true rfl) (hdg := dX0_faultOfTaking_28) (hf := ⟨Nat.le_of_ble_eq_true rfl, Nat.le_of_ble_eq_true rfl⟩) ?_
        refine jz_bool_eq (tgt := 38) C dX0_faultOfTaking_31 (by decide) (fun h31 => ?_) (fun h31 => ?_)
        · skip
          refine jz_const C dX0_faultOfTaking_38 ?_
          exact jz_ret (show (ft (I 25 k) (I 26 k) al i n : Int) = 3 from by unfold ft; rw [if_neg h4, if_pos h14, if_neg (Int.not_lt.mpr h20)]; first | rw [if_pos h31] | rw [if_neg h31]) (hret _ _ dX0_faultOfTaking_39)
        · skip
          refine jz_const C dX0_faultOfTaking_34 ?_
          refine lv_goto (tgt := 39) hx hb dX0_faultOfTaking_35 (by decide) ?_
          exact jz_ret (show (ft (I 25 k) (I 26 k) al i n : Int) = 0 from by unfold ft; rw [if_neg h4, if_pos h14, if_neg (Int.not_lt.mpr h20)]; first | rw [if_pos h31] | rw [if_neg h31]) (hret _ _ dX0_faultOfTaking_39)
      · skip
        refine jz_const C dX0_faultOfTaking_23 ?_
        exact jz_ret (show (ft (I 25 k) (I 26 k) al i n : Int) = 4 from by unfold ft; rw [if_neg h4, if_pos h14, if_pos h20]) (hret _ _ dX0_faultOfTaking_24)
    · skip
      refine jz_const C dX0_faultOfTaking_17 ?_
      exact jz_ret (show (ft (I 25 k) (I 26 k) al i n : Int) = 2 from by unfold ft; rw [if_neg h4, if_neg h14]) (hret _ _ dX0_faultOfTaking_18)
  · skip
    refine jz_const C dX0_faultOfTaking_7 ?_
    exact jz_ret (show (ft (I 25 k) (I 26 k) al i n : Int) = 1 from by exact if_pos (Classical.not_not.mp h4)) (hret _ _ dX0_faultOfTaking_8)
abbrev rm_X0_cut : Room := { frames := 0, cells := 0, slots := 0, locals := 0 }
set_option maxHeartbeats 4000000 in
set_option maxRecDepth 100000 in
theorem c_X0_cut {l : Launch} {D : va_G} {cI cS : ClassId} {ad : Nat → Nat} {I R : Nat → Nat → Int}  (v : Int) (k : Nat) (hk : k < 4) (hln : -2147483648 ≤ I 25 k ∧ I 25 k < 2147483648): JS l yX0_cut wsX0_cut rm_X0_cut (jB D cI cS (wC cI cS ad I R)) [.ref (ad (25 + 2 * k)), .int (iI (v))] (.int (iI (cut (I 25 k) v))) := by
  refine JS.mkI rfl (by decide +kernel) rfl (Nat.le_of_ble_eq_true rfl) ?_
  intro p e st mi ar bl mth cd Q ls C hB hl hret
  obtain ⟨hE, hP⟩ := hB
  have hx := C.1
  have hb := C.2.1
  have hl : lv_has ls 2 [(0, .ref (ad (25 + 2 * k))), (1, .int (iI (v)))] := hl
  have hin0 : ∀ w ∈ wsX00, w ∈ wsX0_cut := fun _ h => List.mem_cons_of_mem _ (List.mem_append_right _ h)
  refine lv_aload_n hx hb dX0_cut_0 rfl (lv_at hl 0 rfl) ?_
  refine fg_H_lane C hin0 hE (by omega) hP (v := I 25 k) (List.mem_of_getElem? (i := 1) rfl) dX0_cut_1 rfl ?_
  refine jz_sub (P := I 25 k = 0) (fun h4_0 => ?_) (fun h4_0 => ?_)
  · refine jz_look (tgt := 32) C dX0_cut_4 (by decide) (by omega) (by first | (rw [h4_0]; done) | (rw [h4_0]; rfl)) (by decide) ?_
    refine lv_iload_n hx hb dX0_cut_32 rfl (lv_at hl 1 rfl) ?_
    refine lv_i2b hx hb dX0_cut_33 rfl ?_
    exact jz_retx (show iI (cut (I 25 k) v) = (iI (v)).toInt8.toInt32 from by unfold cut; rw [if_pos h4_0]; exact bz_e v) (hret _ _ dX0_cut_34)
  refine jz_sub (P := I 25 k = 1) (fun h4_1 => ?_) (fun h4_1 => ?_)
  · refine jz_look (tgt := 35) C dX0_cut_4 (by decide) (by omega) (by first | (rw [h4_1]; done) | (rw [h4_1]; rfl)) (by decide) ?_
    refine lv_iload_n hx hb dX0_cut_35 rfl (lv_at hl 1 rfl) ?_
    refine lv_i2s hx hb dX0_cut_36 rfl ?_
    exact jz_retx (show iI (cut (I 25 k) v) = (iI (v)).toInt16.toInt32 from by unfold cut; rw [if_neg h4_0, if_pos h4_1]; exact sz_e v) (hret _ _ dX0_cut_37)
  refine jz_look (tgt := 38) C dX0_cut_4 (by decide) (by omega) (by show Op.lookupswitch.offset [(0, 28), (1, 31)] (34) _ = 34; rw [Op.lookupswitch.offset_cons, if_neg (Ne.symm h4_0), Op.lookupswitch.offset_cons, if_neg (Ne.symm h4_1)]; rfl) (by decide) ?_
  refine lv_iload_n hx hb dX0_cut_38 rfl (lv_at hl 1 rfl) ?_
  exact jz_ret (show (cut (I 25 k) v : Int) = v from by unfold cut; rw [if_neg h4_0, if_neg h4_1]) (hret _ _ dX0_cut_39)
abbrev rm_J7_fill_53178 : Room := { frames := 0, cells := 0, slots := 0, locals := 0 }
set_option maxHeartbeats 4000000 in
set_option maxRecDepth 100000 in
theorem c_J7_fill_53178 {l : Launch} {D : va_G} {cI cS : ClassId} {w : va_W} {A : Nat → Prop} (hD : va_D A w)  (v : Int) (q : Nat) (n : Nat) (f : Nat → Int) (b : Nat) (hq : w[q]? = some (b, .inl (cI, n, .inl (fun j => iI (f j))))) (hn : n < 2147483648): JV l yJ7_fill_53178 wsJ7_fill_53178 rm_J7_fill_53178 (jB D cI cS w) A [.ref (b), .int (iI (v))] (fun v9 (_ : Unit) => v9 = none) (fun _ H => va_P D vwCl (w.set q (b, .inl (cI, n, .inl (fun j => iI (fl f v n j))))) H) := by
  refine JV.mkN rfl (by decide +kernel) rfl (Nat.le_of_ble_eq_true rfl) ?_
  intro p e st mi ar bl mth cd Q ls C hB hl hret
  obtain ⟨hE, hP⟩ := hB
  have hx := C.1
  have hb := C.2.1
  have hl : lv_has ls 4 [(0, .ref (b)), (1, .int (iI (v)))] := hl
  suffices hgo : ∀ (H : Heap) (lc : List Loc), va_P D vwCl w H → va_S A st.heap H lc → W p l e rm_J7_fill_53178 st mi ar bl mth cd H lc 0 0 Q (F0 mi 0 ls []) from hgo _ _ hP va_S.rf
  clear hP
  intro H lc hP hS
  refine jz_const C dJ7_fill_53178_0 ?_
  refine lv_istore_n (lv' := [(2, .int (iI (0))), (0, .ref (b)), (1, .int (iI (v)))]) hx hb dJ7_fill_53178_1 rfl hl (by decide) rfl (fun ls hl => ?_)
  refine lv_aload_n hx hb dJ7_fill_53178_2 rfl (lv_at hl 1 rfl) ?_
  refine va_alen hx hb hE.1 hP q 0 hq rfl (v := iI n) (iI_ofNat n) dJ7_fill_53178_3 ?_
  refine lv_istore_n (lv' := [(3, .int (iI ((n : Int)))), (2, .int (iI (0))), (0, .ref (b)), (1, .int (iI (v)))]) hx hb dJ7_fill_53178_4 rfl hl (by decide) rfl (fun ls hl => ?_)
  have key5 : ∀ (n5 : Nat) (i : Nat) (hi : i ≤ n), ((n : Int) - (i : Int) : Int) < n5 → ∀ (H : Heap) (lc : List Loc), va_P D vwCl (w.set q (b, .inl (cI, n, .inl (fun j => iI (fl f v i j))))) H → va_S A st.heap H lc → ∀ (ls : Array Slot), lv_has ls 4 [(3, .int (iI ((n : Int)))), (2, .int (iI ((i : Int)))), (0, .ref (b)), (1, .int (iI (v)))] → W p l e rm_J7_fill_53178 st mi ar bl mth cd H lc 0 0 Q (F0 mi 5 ls []) := by
    intro n5
    induction n5 with
    | zero => intro i hi hn9; exfalso; omega
    | succ n5 ih5 =>
      intro i hi hn9 H lc hP hS ls hl
      refine lv_iload_n hx hb dJ7_fill_53178_5 rfl (lv_at hl 1 rfl) ?_
      refine lv_iload_n hx hb dJ7_fill_53178_6 rfl (lv_at hl 0 rfl) ?_
      refine jz_icmp_ge (tgt := 20) C dJ7_fill_53178_7 (by decide) (by omega) (fun h7 => ?_) (fun h7 => ?_)
      · skip
        exact hret () _ _ _ _ dJ7_fill_53178_20 rfl (by simpa only [show i = n by omega] using hP) hS
      · skip
        refine lv_aload_n hx hb dJ7_fill_53178_10 rfl (lv_at hl 2 rfl) ?_
        refine lv_iload_n hx hb dJ7_fill_53178_11 rfl (lv_at hl 1 rfl) ?_
        refine lv_iload_n hx hb dJ7_fill_53178_12 rfl (lv_at hl 3 rfl) ?_
        have hql : q < w.length := (List.getElem?_eq_some_iff.mp hq).1
        refine va_iast hx hb hE.1 hP (va_Dmap hD (setmap9 hq)) hS q 0 (List.getElem?_set_self hql) rfl (iI_in (by omega) hn) dJ7_fill_53178_13 (fun H lc hP _ hS => ?_)
        rw [iI_clamp (by omega), u1_upd, List.set_set, Int.toNat_natCast, fl_s] at hP
        refine jz_iinc (k := 1) (z := (i : Int) + 1) (lv' := [(2, .int (iI ((i : Int) + 1))), (3, .int (iI ((n : Int)))), (0, .ref (b)), (1, .int (iI (v)))]) C dJ7_fill_53178_14 hl rfl rfl (by decide) rfl (fun ls hl => ?_)
        refine lv_goto (tgt := 5) hx hb dJ7_fill_53178_17 (by decide) ?_
        exact ih5 (i + 1) (by omega) (by omega) _ _ hP hS ls (lv_sub hl [1, 0, 2, 3] rfl)
  exact key5 (Int.toNat ((n : Int) - (0 : Int)) + 1) 0 (by omega) (by omega) _ _ (by rw [fl_0]; exact (List.set_self9 hq).symm ▸ hP) hS ls (lv_sub hl [0, 1, 2, 3] rfl)
abbrev rm_X0_renew : Room := { frames := 1, cells := 0, slots := 0, locals := 23 }
set_option maxHeartbeats 4000000 in
set_option maxRecDepth 100000 in
theorem c_X0_renew {l : Launch} {D : va_G} {cI cS : ClassId} {ad : Nat → Nat} {I R : Nat → Nat → Int} {A : Nat → Prop} (hD : va_D A (wC cI cS ad I R))  (ln : Int) (sz : Int) (k : Nat) (hk : k < 4): JV l yX0_renew wsX0_renew rm_X0_renew (jB D cI cS (wC cI cS ad I R)) A [.ref (ad (25 + 2 * k)), .int (iI (ln)), .int (iI (sz))] (fun v9 (_ : Unit) => v9 = none) (fun _ H => va_P D vwCl (wC cI cS ad (u2 (u2 I 25 k ln) 26 k sz) (uR R (26 + 2 * k) (fl (R (26 + 2 * k)) 0 60))) H) := by
  refine JV.mkN rfl (by decide +kernel) rfl (Nat.le_of_ble_eq_true rfl) ?_
  intro p e st mi ar bl mth cd Q ls C hB hl hret
  obtain ⟨hE, hP⟩ := hB
  have hx := C.1
  have hb := C.2.1
  have hl : lv_has ls 3 [(0, .ref (ad (25 + 2 * k))), (1, .int (iI (ln))), (2, .int (iI (sz)))] := hl
  have hin0 : ∀ w ∈ wsX00, w ∈ wsX0_renew := fun _ h => List.mem_cons_of_mem _ (List.mem_append_right _ h)
  suffices hgo : ∀ (H : Heap) (lc : List Loc), va_P D vwCl (wC cI cS ad I R) H → va_S A st.heap H lc → W p l e rm_X0_renew st mi ar bl mth cd H lc 0 0 Q (F0 mi 0 ls []) from hgo _ _ hP va_S.rf
  clear hP
  intro H lc hP hS
  refine lv_aload_n hx hb dX0_renew_0 rfl (lv_at hl 0 rfl) ?_
  refine lv_iload_n hx hb dX0_renew_1 rfl (lv_at hl 1 rfl) ?_
  refine fp_H_lane C hin0 hE (by omega) hP (jDC hD) hS (List.mem_of_getElem? (i := 1) rfl) dX0_renew_2 (fun H lc hP hS => ?_)
  refine lv_aload_n hx hb dX0_renew_5 rfl (lv_at hl 0 rfl) ?_
  refine lv_iload_n hx hb dX0_renew_6 rfl (lv_at hl 2 rfl) ?_
  refine fp_H_size C hin0 hE (by omega) hP (jDC hD) hS (List.mem_of_getElem? (i := 2) rfl) dX0_renew_7 (fun H lc hP hS => ?_)
  refine lv_aload_n hx hb dX0_renew_10 rfl (lv_at hl 0 rfl) ?_
  refine fg_H_row C hin0 hE (by omega) hP (List.mem_of_getElem? (i := 3) rfl) dX0_renew_11 ?_
  refine jz_const C dX0_renew_14 ?_
  refine jw_S C hl.1 (jpreS hE hP) (c_J7_fill_53178 (A := A) (jDC hD) 0 (26 + 2 * k) 60 (R (26 + 2 * k)) (ad (26 + 2 * k)) (wC_row (by omega)) (by decide)) (va_cwS 2 C.2.2.2.2 gX0_renew_J7_fill_53178 rfl rfl rfl (by decide +kernel) ⟨Nat.le_of_ble_eq_true rfl, Nat.le_of_ble_eq_true rfl⟩) (As := [.ref (ad (26 + 2 * k)), .int (iI (0))]) (hn := rfl) (hst := rfl) (rest := []) (hW := Nat.le_of_ble_eq_true rfl) (hdg := dX0_renew_15) (hf := ⟨Nat.le_of_ble_eq_true rfl, Nat.le_of_ble_eq_true rfl⟩) hS (fun v9 uq15 H lc hq9 hP hS => ?_)
  subst hq9
  have hP : va_P D vwCl (wC cI cS ad (u2 (u2 I 25 k ln) 26 k sz) (uR R (26 + 2 * k) (fl (R (26 + 2 * k)) 0 60))) H := (wC_set (by omega) hP)
  exact hret () _ _ _ _ dX0_renew_18 rfl hP hS
abbrev rm_X3_sheetAtI : Room := { frames := 0, cells := 0, slots := 0, locals := 0 }
set_option maxHeartbeats 4000000 in
set_option maxRecDepth 100000 in
theorem c_X3_sheetAtI {l : Launch} {D : va_G} {cI cS : ClassId} {ad : Nat → Nat} {I R : Nat → Nat → Int}  (k : Int)  (hk : 0 ≤ k ∧ k < 4): JS l yX3_sheetAt wsX3_sheetAt rm_X3_sheetAtI (jB D cI cS (wC cI cS ad I R)) [.ref (ad 0), .int (iI (k))] (.ref (ad (25 + 2 * (Int.toNat k)))) := by
  refine JS.mkA rfl (by decide +kernel) rfl (Nat.le_of_ble_eq_true rfl) (Or.inl ⟨_, rfl⟩) (Or.inr ⟨_, rfl⟩) ?_
  intro p e st mi ar bl mth cd Q ls C hB hl hret
  obtain ⟨hE, hP⟩ := hB
  have hx := C.1
  have hb := C.2.1
  have hl : lv_has ls 2 [(0, .ref (ad 0)), (1, .int (iI (k)))] := hl
  have hin3 : ∀ w ∈ wsX30, w ∈ wsX3_sheetAt := fun _ h => List.mem_cons_of_mem _ (List.mem_append_right _ h)
  refine lv_iload_n hx hb dX3_sheetAt_0 rfl (lv_at hl 1 rfl) ?_
  refine jz_if_lt (tgt := 22) C dX3_sheetAt_1 (by decide) (by omega) (fun h1 => ?_) (fun h1 => ?_)
  · exfalso; omega
  · skip
    refine lv_iload_n hx hb dX3_sheetAt_4 rfl (lv_at hl 1 rfl) ?_
    refine lv_aload_n hx hb dX3_sheetAt_5 rfl (lv_at hl 0 rfl) ?_
    refine fg_V_sheets C hin3 hE hP (List.mem_of_getElem? (i := 1) rfl) dX3_sheetAt_6 ?_
    refine fn_sheets C hE hP dX3_sheetAt_9 ?_
    refine jz_icmp_ge (tgt := 22) C dX3_sheetAt_10 (by decide) (by omega) (fun h10 => ?_) (fun h10 => ?_)
    · exfalso; omega
    · skip
      refine lv_aload_n hx hb dX3_sheetAt_13 rfl (lv_at hl 0 rfl) ?_
      refine fg_V_sheets C hin3 hE hP (List.mem_of_getElem? (i := 1) rfl) dX3_sheetAt_14 ?_
      refine lv_iload_n hx hb dX3_sheetAt_17 rfl (lv_at hl 1 rfl) ?_
      refine fl_sheets C hE hP dX3_sheetAt_18 (by omega) ?_
      refine lv_goto (tgt := 23) hx hb dX3_sheetAt_19 (by decide) ?_
      exact hret _ _ dX3_sheetAt_23
abbrev rm_X3_sheetAtO : Room := { frames := 0, cells := 0, slots := 0, locals := 0 }
set_option maxHeartbeats 4000000 in
set_option maxRecDepth 100000 in
theorem c_X3_sheetAtO {l : Launch} {D : va_G} {cI cS : ClassId} {ad : Nat → Nat} {I R : Nat → Nat → Int}  (k : Int)  (hk : ¬ (0 ≤ k ∧ k < 4)) (hr : -2147483648 ≤ k ∧ k < 2147483648): JS l yX3_sheetAt wsX3_sheetAt rm_X3_sheetAtO (jB D cI cS (wC cI cS ad I R)) [.ref (ad 0), .int (iI (k))] (.null) := by
  refine JS.mkA rfl (by decide +kernel) rfl (Nat.le_of_ble_eq_true rfl) (Or.inl ⟨_, rfl⟩) (Or.inl rfl) ?_
  intro p e st mi ar bl mth cd Q ls C hB hl hret
  obtain ⟨hE, hP⟩ := hB
  have hx := C.1
  have hb := C.2.1
  have hl : lv_has ls 2 [(0, .ref (ad 0)), (1, .int (iI (k)))] := hl
  have hin3 : ∀ w ∈ wsX30, w ∈ wsX3_sheetAt := fun _ h => List.mem_cons_of_mem _ (List.mem_append_right _ h)
  refine lv_iload_n hx hb dX3_sheetAt_0 rfl (lv_at hl 1 rfl) ?_
  refine jz_if_lt (tgt := 22) C dX3_sheetAt_1 (by decide) (by omega) (fun h1 => ?_) (fun h1 => ?_)
  · skip
    refine lv_null hx hb dX3_sheetAt_22 ?_
    exact hret _ _ dX3_sheetAt_23
  · skip
    refine lv_iload_n hx hb dX3_sheetAt_4 rfl (lv_at hl 1 rfl) ?_
    refine lv_aload_n hx hb dX3_sheetAt_5 rfl (lv_at hl 0 rfl) ?_
    refine fg_V_sheets C hin3 hE hP (List.mem_of_getElem? (i := 1) rfl) dX3_sheetAt_6 ?_
    refine fn_sheets C hE hP dX3_sheetAt_9 ?_
    refine jz_icmp_ge (tgt := 22) C dX3_sheetAt_10 (by decide) (by omega) (fun h10 => ?_) (fun h10 => ?_)
    · skip
      refine lv_null hx hb dX3_sheetAt_22 ?_
      exact hret _ _ dX3_sheetAt_23
    · skip
      exfalso; omega
abbrev rm_X3_fail : Room := { frames := 0, cells := 0, slots := 0, locals := 0 }
set_option maxHeartbeats 4000000 in
set_option maxRecDepth 100000 in
theorem c_X3_fail {l : Launch} {D : va_G} {cI cS : ClassId} {ad : Nat → Nat} {I R : Nat → Nat → Int} {A : Nat → Prop} (hD : va_D A (wC cI cS ad I R))  (found : Int)  : JV l yX3_fail wsX3_fail rm_X3_fail (jB D cI cS (wC cI cS ad I R)) A [.ref (ad 0), .int (iI (found))] (fun v9 (_ : Unit) => v9 = some (.int (iI (-10 - found)))) (fun _ H => va_P D vwCl (wC cI cS ad (u2 I 0 6 found) R) H) := by
  refine JV.mkI rfl (by decide +kernel) rfl (Nat.le_of_ble_eq_true rfl) ?_
  intro p e st mi ar bl mth cd Q ls C hB hl hret
  obtain ⟨hE, hP⟩ := hB
  have hx := C.1
  have hb := C.2.1
  have hl : lv_has ls 2 [(0, .ref (ad 0)), (1, .int (iI (found)))] := hl
  have hin3 : ∀ w ∈ wsX30, w ∈ wsX3_fail := fun _ h => List.mem_cons_of_mem _ (List.mem_append_right _ h)
  suffices hgo : ∀ (H : Heap) (lc : List Loc), va_P D vwCl (wC cI cS ad I R) H → va_S A st.heap H lc → W p l e rm_X3_fail st mi ar bl mth cd H lc 0 0 Q (F0 mi 0 ls []) from hgo _ _ hP va_S.rf
  clear hP
  intro H lc hP hS
  refine lv_aload_n hx hb dX3_fail_0 rfl (lv_at hl 0 rfl) ?_
  refine lv_iload_n hx hb dX3_fail_1 rfl (lv_at hl 1 rfl) ?_
  refine fp_V_lastFault C hin3 hE hP (jDC hD) hS (List.mem_of_getElem? (i := 1) rfl) dX3_fail_2 (fun H lc hP hS => ?_)
  refine jz_bipush C dX3_fail_5 (by decide +kernel) ?_
  refine lv_iload_n hx hb dX3_fail_7 rfl (lv_at hl 1 rfl) ?_
  refine jz_isub C dX3_fail_8 ?_
  exact hret _ () _ _ _ _ dX3_fail_9 rfl hP hS
abbrev rm_X3_leave : Room := { frames := 0, cells := 0, slots := 0, locals := 0 }
set_option maxHeartbeats 4000000 in
set_option maxRecDepth 100000 in
theorem c_X3_leave {l : Launch} {D : va_G} {cI cS : ClassId} {ad : Nat → Nat} {I R : Nat → Nat → Int} {A : Nat → Prop} (hD : va_D A (wC cI cS ad I R))  (number : Int)  : JV l yX3_leave wsX3_leave rm_X3_leave (jB D cI cS (wC cI cS ad I R)) A [.ref (ad 0), .int (iI (number))] (fun v9 (_ : Unit) => v9 = none) (fun _ H => va_P D vwCl (wC cI cS ad (u2 I 0 5 (31 * (I 0 5) + number)) R) H) := by
  refine JV.mkN rfl (by decide +kernel) rfl (Nat.le_of_ble_eq_true rfl) ?_
  intro p e st mi ar bl mth cd Q ls C hB hl hret
  obtain ⟨hE, hP⟩ := hB
  have hx := C.1
  have hb := C.2.1
  have hl : lv_has ls 2 [(0, .ref (ad 0)), (1, .int (iI (number)))] := hl
  have hin3 : ∀ w ∈ wsX30, w ∈ wsX3_leave := fun _ h => List.mem_cons_of_mem _ (List.mem_append_right _ h)
  suffices hgo : ∀ (H : Heap) (lc : List Loc), va_P D vwCl (wC cI cS ad I R) H → va_S A st.heap H lc → W p l e rm_X3_leave st mi ar bl mth cd H lc 0 0 Q (F0 mi 0 ls []) from hgo _ _ hP va_S.rf
  clear hP
  intro H lc hP hS
  refine lv_aload_n hx hb dX3_leave_0 rfl (lv_at hl 0 rfl) ?_
  refine jz_bipush C dX3_leave_1 (by decide +kernel) ?_
  refine lv_aload_n hx hb dX3_leave_3 rfl (lv_at hl 0 rfl) ?_
  refine fg_V_traced C hin3 hE hP (v := I 0 5) (List.mem_of_getElem? (i := 1) rfl) dX3_leave_4 rfl ?_
  refine jz_imul C dX3_leave_7 ?_
  refine lv_iload_n hx hb dX3_leave_8 rfl (lv_at hl 1 rfl) ?_
  refine jz_iadd C dX3_leave_9 ?_
  refine fp_V_traced C hin3 hE hP (jDC hD) hS (List.mem_of_getElem? (i := 1) rfl) dX3_leave_10 (fun H lc hP hS => ?_)
  exact hret () _ _ _ _ dX3_leave_13 rfl hP hS
abbrev rm_X3_vaneOrNone : Room := { frames := 1, cells := 0, slots := 0, locals := 22 }
set_option maxHeartbeats 4000000 in
set_option maxRecDepth 100000 in
theorem c_X3_vaneOrNone {l : Launch} {D : va_G} {cI cS : ClassId} {ad : Nat → Nat} {I R : Nat → Nat → Int}  (s : Int) (w : Int)  (hT : TI I R) (hs : 0 ≤ s ∧ s < 256) (hw : -2147483648 ≤ w ∧ w < 2147483648): JS l yX3_vaneOrNone wsX3_vaneOrNone rm_X3_vaneOrNone (jB D cI cS (wC cI cS ad I R)) [.ref (ad 0), .int (iI (s)), .int (iI (w))] (.int (iI (if 0 ≤ w ∧ w < I 5 13 then vz (I 5 13) s w else -9))) := by
  refine JS.mkI rfl (by decide +kernel) rfl (Nat.le_of_ble_eq_true rfl) ?_
  intro p e st mi ar bl mth cd Q ls C hB hl hret
  obtain ⟨hE, hP⟩ := hB
  have hx := C.1
  have hb := C.2.1
  have hl : lv_has ls 3 [(0, .ref (ad 0)), (1, .int (iI (s))), (2, .int (iI (w)))] := hl
  have hin3 : ∀ w ∈ wsX30, w ∈ wsX3_vaneOrNone := fun _ h => List.mem_cons_of_mem _ (List.mem_append_left _ (List.mem_append_right _ h))
  have hW := hT.works
  refine lv_aload_n hx hb dX3_vaneOrNone_0 rfl (lv_at hl 0 rfl) ?_
  refine fg_V_present C hin3 hE hP (List.mem_of_getElem? (i := 1) rfl) dX3_vaneOrNone_1 ?_
  refine lv_iload_n hx hb dX3_vaneOrNone_4 rfl (lv_at hl 2 rfl) ?_
  refine jc_V C hl.1 (jpreV hE hP 2 5 rfl rfl) (c_X2_hasWork w (show -2147483648 ≤ w ∧ w < 2147483648 from (by omega)) hT.works) (cwV 1 C.2.2.2.2 gX3_vaneOrNone_X2_hasWork rfl rfl rfl (by decide +kernel) ⟨Nat.le_of_ble_eq_true rfl, Nat.le_of_ble_eq_true rfl⟩) (As := [.int (iI (w))]) (v := .int (iI (if 0 ≤ w ∧ w < I 5 13 then 1 else 0))) (hn := rfl) (hst := rfl) (rest := []) (hW := Nat.le_of_ble_eq_true rfl) (hdg := dX3_vaneOrNone_5) (hf := ⟨Nat.le_of_ble_eq_true rfl, Nat.le_of_ble_eq_true rfl⟩) ?_
  refine jz_bool_eq (tgt := 23) C dX3_vaneOrNone_8 (by decide) (fun h8 => ?_) (fun h8 => ?_)
  · skip
    refine jz_bipush C dX3_vaneOrNone_23 (by decide +kernel) ?_
    exact jz_ret (show (if 0 ≤ w ∧ w < I 5 13 then vz (I 5 13) s w else -9 : Int) = -9 from by first | rw [if_pos h8] | rw [if_neg h8]) (hret _ _ dX3_vaneOrNone_25)
  · skip
    refine lv_aload_n hx hb dX3_vaneOrNone_11 rfl (lv_at hl 0 rfl) ?_
    refine fg_V_present C hin3 hE hP (List.mem_of_getElem? (i := 1) rfl) dX3_vaneOrNone_12 ?_
    refine lv_iload_n hx hb dX3_vaneOrNone_15 rfl (lv_at hl 1 rfl) ?_
    refine lv_iload_n hx hb dX3_vaneOrNone_16 rfl (lv_at hl 2 rfl) ?_
    refine jc_V C hl.1 (jpreV hE hP 2 5 rfl rfl) (c_X2_vaneIn s w hT.works (show 0 ≤ s ∧ s < 256 from (by omega)) (show 0 ≤ w ∧ w < I 5 13 from (by omega))) (cwV 2 C.2.2.2.2 gX3_vaneOrNone_X2_vaneIn rfl rfl rfl (by decide +kernel) ⟨Nat.le_of_ble_eq_true rfl, Nat.le_of_ble_eq_true rfl⟩) (As := [.int (iI (s)), .int (iI (w))]) (v := .int (iI (vz (I 5 13) s w))) (hn := rfl) (hst := rfl) (rest := []) (hW := Nat.le_of_ble_eq_true rfl) (hdg := dX3_vaneOrNone_17) (hf := ⟨Nat.le_of_ble_eq_true rfl, Nat.le_of_ble_eq_true rfl⟩) ?_
    refine lv_goto (tgt := 25) hx hb dX3_vaneOrNone_20 (by decide) ?_
    exact jz_ret (show (if 0 ≤ w ∧ w < I 5 13 then vz (I 5 13) s w else -9 : Int) = vz (I 5 13) s w from by first | rw [if_pos h8] | rw [if_neg h8]) (hret _ _ dX3_vaneOrNone_25)
abbrev rm_X3_tellWard : Room := { frames := 1, cells := 0, slots := 0, locals := 21 }
set_option maxHeartbeats 4000000 in
set_option maxRecDepth 100000 in
theorem c_X3_tellWard {l : Launch} {D : va_G} {cI cS : ClassId} {ad : Nat → Nat} {I R : Nat → Nat → Int} {A : Nat → Prop} (hD : va_D A (wC cI cS ad I R))  (k : Int)  (hT : TI I R) (hk : 0 ≤ k ∧ k < 6): JV l yX3_tellWard wsX3_tellWard rm_X3_tellWard (jB D cI cS (wC cI cS ad I R)) A [.ref (ad 0), .int (iI (k))] (fun v9 (_ : Unit) => v9 = some (.int (iI (R 7 (Int.toNat k))))) (fun _ H => va_P D vwCl (wC cI cS ad (u2 I 0 5 (31 * (I 0 5) + 1)) R) H) := by
  refine JV.mkI rfl (by decide +kernel) rfl (Nat.le_of_ble_eq_true rfl) ?_
  intro p e st mi ar bl mth cd Q ls C hB hl hret
  obtain ⟨hE, hP⟩ := hB
  have hx := C.1
  have hb := C.2.1
  have hl : lv_has ls 2 [(0, .ref (ad 0)), (1, .int (iI (k)))] := hl
  have hin2 : ∀ w ∈ wsX20, w ∈ wsX3_tellWard := fun _ h => List.mem_cons_of_mem _ (List.mem_append_right _ h)
  have hin3 : ∀ w ∈ wsX30, w ∈ wsX3_tellWard := fun _ h => List.mem_cons_of_mem _ (List.mem_append_left _ (List.mem_append_right _ h))
  suffices hgo : ∀ (H : Heap) (lc : List Loc), va_P D vwCl (wC cI cS ad I R) H → va_S A st.heap H lc → W p l e rm_X3_tellWard st mi ar bl mth cd H lc 0 0 Q (F0 mi 0 ls []) from hgo _ _ hP va_S.rf
  clear hP
  intro H lc hP hS
  refine lv_aload_n hx hb dX3_tellWard_0 rfl (lv_at hl 0 rfl) ?_
  refine jz_const C dX3_tellWard_1 ?_
  refine jw_V C hl.1 (jpreV hE hP 3 0 rfl rfl) (c_X3_leave (A := A) (jDC hD) 1 ) (cwV 1 C.2.2.2.2 gX3_tellWard_X3_leave rfl rfl rfl (by decide +kernel) ⟨Nat.le_of_ble_eq_true rfl, Nat.le_of_ble_eq_true rfl⟩) (As := [.int (iI (1))]) (hn := rfl) (hst := rfl) (rest := []) (hW := Nat.le_of_ble_eq_true rfl) (hdg := dX3_tellWard_2) (hf := ⟨Nat.le_of_ble_eq_true rfl, Nat.le_of_ble_eq_true rfl⟩) hS (fun v9 uq2 H lc hq9 hP hS => ?_)
  subst hq9
  have hP : va_P D vwCl (wC cI cS ad (u2 I 0 5 (31 * (I 0 5) + 1)) R) H := hP
  refine lv_aload_n hx hb dX3_tellWard_5 rfl (lv_at hl 0 rfl) ?_
  refine fg_V_present C hin3 hE hP (List.mem_of_getElem? (i := 1) rfl) dX3_tellWard_6 ?_
  refine fg_T_noses C hin2 hE hP (List.mem_of_getElem? (i := 2) rfl) dX3_tellWard_9 ?_
  refine lv_iload_n hx hb dX3_tellWard_12 rfl (lv_at hl 1 rfl) ?_
  refine jc_S C hl.1 (jpreS hE hP) (c_X3_read k 7 6 (R 7) (ad 7) rfl (by decide) (show 0 ≤ k ∧ k < 6 from (by omega))) (va_cwS 2 C.2.2.2.2 gX3_tellWard_X3_read rfl rfl rfl (by decide +kernel) ⟨Nat.le_of_ble_eq_true rfl, Nat.le_of_ble_eq_true rfl⟩) (As := [.ref (ad 7), .int (iI (k))]) (v := .int (iI (R 7 (Int.toNat k)))) (hn := rfl) (hst := rfl) (rest := []) (hW := Nat.le_of_ble_eq_true rfl) (hdg := dX3_tellWard_13) (hf := ⟨Nat.le_of_ble_eq_true rfl, Nat.le_of_ble_eq_true rfl⟩) ?_
  exact hret _ () _ _ _ _ dX3_tellWard_16 rfl hP hS
abbrev rm_X3_tellRich : Room := { frames := 2, cells := 0, slots := 0, locals := 42 }
set_option maxHeartbeats 4000000 in
set_option maxRecDepth 100000 in
theorem c_X3_tellRich {l : Launch} {D : va_G} {cI cS : ClassId} {ad : Nat → Nat} {I R : Nat → Nat → Int} {A : Nat → Prop} (hD : va_D A (wC cI cS ad I R))  (k : Int)  (hT : TI I R) (hk : 0 ≤ k ∧ k < 6): JV l yX3_tellRich wsX3_tellRich rm_X3_tellRich (jB D cI cS (wC cI cS ad I R)) A [.ref (ad 0), .int (iI (k))] (fun v9 (_ : Unit) => v9 = some (.int (iI (R 7 (Int.toNat k) + 100)))) (fun _ H => va_P D vwCl (wC cI cS ad (u2 I 0 5 (31 * (31 * (I 0 5) + 2) + 1)) R) H) := by
  refine JV.mkI rfl (by decide +kernel) rfl (Nat.le_of_ble_eq_true rfl) ?_
  intro p e st mi ar bl mth cd Q ls C hB hl hret
  obtain ⟨hE, hP⟩ := hB
  have hx := C.1
  have hb := C.2.1
  have hl : lv_has ls 2 [(0, .ref (ad 0)), (1, .int (iI (k)))] := hl
  suffices hgo : ∀ (H : Heap) (lc : List Loc), va_P D vwCl (wC cI cS ad I R) H → va_S A st.heap H lc → W p l e rm_X3_tellRich st mi ar bl mth cd H lc 0 0 Q (F0 mi 0 ls []) from hgo _ _ hP va_S.rf
  clear hP
  intro H lc hP hS
  refine lv_aload_n hx hb dX3_tellRich_0 rfl (lv_at hl 0 rfl) ?_
  refine jz_const C dX3_tellRich_1 ?_
  refine jw_V C hl.1 (jpreV hE hP 3 0 rfl rfl) (c_X3_leave (A := A) (jDC hD) 2 ) (cwV 1 C.2.2.2.2 gX3_tellRich_X3_leave rfl rfl rfl (by decide +kernel) ⟨Nat.le_of_ble_eq_true rfl, Nat.le_of_ble_eq_true rfl⟩) (As := [.int (iI (2))]) (hn := rfl) (hst := rfl) (rest := []) (hW := Nat.le_of_ble_eq_true rfl) (hdg := dX3_tellRich_2) (hf := ⟨Nat.le_of_ble_eq_true rfl, Nat.le_of_ble_eq_true rfl⟩) hS (fun v9 uq2 H lc hq9 hP hS => ?_)
  subst hq9
  have hP : va_P D vwCl (wC cI cS ad (u2 I 0 5 (31 * (I 0 5) + 2)) R) H := hP
  refine lv_aload_n hx hb dX3_tellRich_5 rfl (lv_at hl 0 rfl) ?_
  refine lv_iload_n hx hb dX3_tellRich_6 rfl (lv_at hl 1 rfl) ?_
  refine jw_V C hl.1 (jpreV hE hP 3 0 rfl rfl) (c_X3_tellWard (A := A) (jDC hD) k hT (show 0 ≤ k ∧ k < 6 from (by omega))) (cwV 1 C.2.2.2.2 gX3_tellRich_X3_tellWard rfl rfl rfl (by decide +kernel) ⟨Nat.le_of_ble_eq_true rfl, Nat.le_of_ble_eq_true rfl⟩) (As := [.int (iI (k))]) (hn := rfl) (hst := rfl) (rest := []) (hW := Nat.le_of_ble_eq_true rfl) (hdg := dX3_tellRich_7) (hf := ⟨Nat.le_of_ble_eq_true rfl, Nat.le_of_ble_eq_true rfl⟩) hS (fun v9 uq7 H lc hq9 hP hS => ?_)
  subst hq9
  have hP : va_P D vwCl (wC cI cS ad (u2 (u2 I 0 5 (31 * (I 0 5) + 2)) 0 5 (31 * (31 * (I 0 5) + 2) + 1)) R) H := hP
  refine jz_bipush C dX3_tellRich_10 (by decide +kernel) ?_
  refine jz_iadd C dX3_tellRich_12 ?_
  exact hret _ () _ _ _ _ dX3_tellRich_13 rfl hP hS
abbrev rm_X3_tellFine : Room := { frames := 3, cells := 0, slots := 0, locals := 63 }
set_option maxHeartbeats 4000000 in
set_option maxRecDepth 100000 in
theorem c_X3_tellFine {l : Launch} {D : va_G} {cI cS : ClassId} {ad : Nat → Nat} {I R : Nat → Nat → Int} {A : Nat → Prop} (hD : va_D A (wC cI cS ad I R))  (k : Int)  (hT : TI I R) (hk : 0 ≤ k ∧ k < 6): JV l yX3_tellFine wsX3_tellFine rm_X3_tellFine (jB D cI cS (wC cI cS ad I R)) A [.ref (ad 0), .int (iI (k))] (fun v9 (_ : Unit) => v9 = some (.int (iI ((R 7 (Int.toNat k) + 100) + R 7 (Int.toNat k))))) (fun _ H => va_P D vwCl (wC cI cS ad (u2 I 0 5 (31 * (31 * (31 * (31 * (I 0 5) + 3) + 2) + 1) + 1)) R) H) := by
  refine JV.mkI rfl (by decide +kernel) rfl (Nat.le_of_ble_eq_true rfl) ?_
  intro p e st mi ar bl mth cd Q ls C hB hl hret
  obtain ⟨hE, hP⟩ := hB
  have hx := C.1
  have hb := C.2.1
  have hl : lv_has ls 3 [(0, .ref (ad 0)), (1, .int (iI (k)))] := hl
  suffices hgo : ∀ (H : Heap) (lc : List Loc), va_P D vwCl (wC cI cS ad I R) H → va_S A st.heap H lc → W p l e rm_X3_tellFine st mi ar bl mth cd H lc 0 0 Q (F0 mi 0 ls []) from hgo _ _ hP va_S.rf
  clear hP
  intro H lc hP hS
  refine lv_aload_n hx hb dX3_tellFine_0 rfl (lv_at hl 0 rfl) ?_
  refine jz_const C dX3_tellFine_1 ?_
  refine jw_V C hl.1 (jpreV hE hP 3 0 rfl rfl) (c_X3_leave (A := A) (jDC hD) 3 ) (cwV 1 C.2.2.2.2 gX3_tellFine_X3_leave rfl rfl rfl (by decide +kernel) ⟨Nat.le_of_ble_eq_true rfl, Nat.le_of_ble_eq_true rfl⟩) (As := [.int (iI (3))]) (hn := rfl) (hst := rfl) (rest := []) (hW := Nat.le_of_ble_eq_true rfl) (hdg := dX3_tellFine_2) (hf := ⟨Nat.le_of_ble_eq_true rfl, Nat.le_of_ble_eq_true rfl⟩) hS (fun v9 uq2 H lc hq9 hP hS => ?_)
  subst hq9
  have hP : va_P D vwCl (wC cI cS ad (u2 I 0 5 (31 * (I 0 5) + 3)) R) H := hP
  refine lv_aload_n hx hb dX3_tellFine_5 rfl (lv_at hl 0 rfl) ?_
  refine lv_iload_n hx hb dX3_tellFine_6 rfl (lv_at hl 1 rfl) ?_
  refine jw_V C hl.1 (jpreV hE hP 3 0 rfl rfl) (c_X3_tellRich (A := A) (jDC hD) k hT (show 0 ≤ k ∧ k < 6 from (by omega))) (cwV 1 C.2.2.2.2 gX3_tellFine_X3_tellRich rfl rfl rfl (by decide +kernel) ⟨Nat.le_of_ble_eq_true rfl, Nat.le_of_ble_eq_true rfl⟩) (As := [.int (iI (k))]) (hn := rfl) (hst := rfl) (rest := []) (hW := Nat.le_of_ble_eq_true rfl) (hdg := dX3_tellFine_7) (hf := ⟨Nat.le_of_ble_eq_true rfl, Nat.le_of_ble_eq_true rfl⟩) hS (fun v9 uq7 H lc hq9 hP hS => ?_)
  subst hq9
  have hP : va_P D vwCl (wC cI cS ad (u2 (u2 I 0 5 (31 * (I 0 5) + 3)) 0 5 (31 * (31 * (31 * (I 0 5) + 3) + 2) + 1)) R) H := hP
  refine lv_istore_n (lv' := [(2, .int (iI (R 7 (Int.toNat k) + 100))), (0, .ref (ad 0)), (1, .int (iI (k)))]) hx hb dX3_tellFine_10 rfl hl (by decide) rfl (fun ls hl => ?_)
  refine lv_iload_n hx hb dX3_tellFine_11 rfl (lv_at hl 0 rfl) ?_
  refine lv_aload_n hx hb dX3_tellFine_12 rfl (lv_at hl 1 rfl) ?_
  refine lv_iload_n hx hb dX3_tellFine_13 rfl (lv_at hl 2 rfl) ?_
  refine jw_V C hl.1 (jpreV hE hP 3 0 rfl rfl) (c_X3_tellWard (A := A) (jDC hD) k hT (show 0 ≤ k ∧ k < 6 from (by omega))) (cwV 1 C.2.2.2.2 gX3_tellFine_X3_tellWard rfl rfl rfl (by decide +kernel) ⟨Nat.le_of_ble_eq_true rfl, Nat.le_of_ble_eq_true rfl⟩) (As := [.int (iI (k))]) (hn := rfl) (hst := rfl) (rest := [.int (iI (R 7 (Int.toNat k) + 100))]) (hW := Nat.le_of_ble_eq_true rfl) (hdg := dX3_tellFine_14) (hf := ⟨Nat.le_of_ble_eq_true rfl, Nat.le_of_ble_eq_true rfl⟩) hS (fun v9 uq14 H lc hq9 hP hS => ?_)
  subst hq9
  have hP : va_P D vwCl (wC cI cS ad (u2 (u2 (u2 I 0 5 (31 * (I 0 5) + 3)) 0 5 (31 * (31 * (31 * (I 0 5) + 3) + 2) + 1)) 0 5 (31 * (31 * (31 * (31 * (I 0 5) + 3) + 2) + 1) + 1)) R) H := hP
  refine jz_iadd C dX3_tellFine_17 ?_
  exact hret _ () _ _ _ _ dX3_tellFine_18 rfl hP hS
