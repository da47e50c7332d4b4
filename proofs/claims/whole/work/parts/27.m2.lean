theorem uR_q {R : Nat → Nat → Int} {q : Nat} {f : Nat → Int} : uR R q f q = f := by simp [uR]
theorem lf_d {g : Nat → Int} {v : Nat} (hb : ∀ x, x ≤ v → 0 ≤ g x ∧ g x < 1000000) (h1 : 0 ≤ lf g v) (h2 : lf g v ≤ g v) : lf g (v + 1) = lf g v := by
  rw [lf_s, (lf_c hb h1 h2).1]
  unfold lf at h1 ⊢
  split at h1
  · omega
  · next e => rw [if_neg e]
theorem ct_t {its : Nat → Int} {x : Int} {k : Nat} (h : its k = x) : ct its x (k + 1) = ct its x k + 1 := by simp [ct, h]
theorem ct_f {its : Nat → Int} {x : Int} {k : Nat} (h : ¬ its k = x) : ct its x (k + 1) = ct its x k := by simp [ct, h]
theorem bv_t {b v : Int} {f : Nat → Int} {k : Nat} (h : b / 2 ^ k % 2 ^ 1 = 1) : bv b v f k = v := if_pos h
theorem bv_f {b v : Int} {f : Nat → Int} {k : Nat} (h : ¬ b / 2 ^ k % 2 ^ 1 = 1) : bv b v f k = f k := if_neg h
abbrev rm_X4_smellOf : Room := { frames := 1, cells := 0, slots := 0, locals := 26 }
set_option maxHeartbeats 4000000 in
set_option maxRecDepth 100000 in
theorem c_X4_smellOf {l : Launch} {D : va_G} {cI cS : ClassId} {ad : Nat → Nat} {F : Nat → Int} {R : Nat → Nat → Int}  (c : Int)  (hM : MI F R) (hc : 0 ≤ c ∧ c < 24): JS l yX4_smellOf wsX4_smellOf rm_X4_smellOf (jB D cI cS (wM cI ad F R)) [.ref (ad 0), .int (iI (c))] (.int (iI (ms F R c))) := by
  refine JS.mkI rfl (by decide +kernel) rfl (Nat.le_of_ble_eq_true rfl) ?_
  intro p e st mi ar bl mth cd Q ls C hB hl hret
  obtain ⟨hE, hP⟩ := hB
  have hx := C.1
  have hb := C.2.1
  have hl : lv_has ls 7 [(0, .ref (ad 0)), (1, .int (iI (c)))] := hl
  have hin4 : ∀ w ∈ wsX40, w ∈ wsX4_smellOf := fun _ h => List.mem_cons_of_mem _ (List.mem_append_right _ h)
  have hW := hM.works
  have hL := hM.law
  refine jz_const C dX4_smellOf_0 ?_
  refine lv_istore_n (lv' := [(2, .int (iI (0))), (0, .ref (ad 0)), (1, .int (iI (c)))]) hx hb dX4_smellOf_1 rfl hl (by decide) rfl (fun ls hl => ?_)
  refine jz_const C dX4_smellOf_2 ?_
  refine lv_istore_n (lv' := [(3, .int (iI (0))), (2, .int (iI (0))), (0, .ref (ad 0)), (1, .int (iI (c)))]) hx hb dX4_smellOf_3 rfl hl (by decide) rfl (fun ls hl => ?_)
  have key4 : ∀ (n4 : Nat) (w : Nat) (hw : (w : Int) ≤ F 3), (F 3 - (w : Int) : Int) < n4 → ∀ (ls : Array Slot), lv_has ls 7 [(3, .int (iI ((w : Int)))), (2, .int (iI (sm (F 11) (fun w : Nat => k_X4_comesTo F R (w : Int) c) w))), (0, .ref (ad 0)), (1, .int (iI (c)))] → W p l e rm_X4_smellOf st mi ar bl mth cd st.heap [] 0 0 Q (F0 mi 4 ls []) := by
    intro n4
    induction n4 with
    | zero => intro w hw hn9; exfalso; omega
    | succ n4 ih4 =>
      intro w hw hn9 ls hl
      refine lv_iload_n hx hb dX4_smellOf_4 rfl (lv_at hl 0 rfl) ?_
      refine lv_aload_n hx hb dX4_smellOf_5 rfl (lv_at hl 2 rfl) ?_
      refine fg_M_works C hin4 hE hP (v := F 3) (List.mem_of_getElem? (i := 1) rfl) dX4_smellOf_6 rfl ?_
      refine jz_icmp_ge (tgt := 98) C dX4_smellOf_9 (by decide) (by omega) (fun h9 => ?_) (fun h9 => ?_)
      · skip
        refine lv_iload_n hx hb dX4_smellOf_98 rfl (lv_at hl 1 rfl) ?_
        exact jz_ret (show (ms F R c : Int) = sm (F 11) (fun w : Nat => k_X4_comesTo F R (w : Int) c) w from by rw [show w = Int.toNat (F 3) by omega]; rfl) (hret _ _ dX4_smellOf_99)
      · skip
        have hw2 := hM.wide2 (Or.inl (by omega))
        have hkm := km_bd hM (w := w) (c := c) (by omega)
        have hsm := sm_bd (law := F 11) (f := fun w : Nat => k_X4_comesTo F R (w : Int) c) (n := w) (fun x hx => km_bd hM (by omega))
        refine lv_aload_n hx hb dX4_smellOf_12 rfl (lv_at hl 2 rfl) ?_
        refine lv_iload_n hx hb dX4_smellOf_13 rfl (lv_at hl 0 rfl) ?_
        refine lv_iload_n hx hb dX4_smellOf_14 rfl (lv_at hl 3 rfl) ?_
        refine jc_V C hl.1 (jpreV hE hP 4 0 rfl rfl) (c_X4_comesTo (w : Int) c (by first | exact hM | assumption) (show 0 ≤ (w : Int) ∧ (w : Int) < 4 from (by omega)) (show 0 ≤ c ∧ c < 24 from (by omega)) (show 2 ≤ F 2 from (by omega))) (cwV 2 C.2.2.2.2 gX4_smellOf_X4_comesTo rfl rfl rfl (by decide +kernel) ⟨Nat.le_of_ble_eq_true rfl, Nat.le_of_ble_eq_true rfl⟩) (As := [.int (iI ((w : Int))), .int (iI (c))]) (v := .int (iI (k_X4_comesTo F R (w : Int) c))) (hn := rfl) (hst := rfl) (rest := []) (hW := Nat.le_of_ble_eq_true rfl) (hdg := dX4_smellOf_15) (hf := ⟨Nat.le_of_ble_eq_true rfl, Nat.le_of_ble_eq_true rfl⟩) ?_
        refine lv_istore (lv' := [(4, .int (iI (k_X4_comesTo F R (w : Int) c))), (3, .int (iI ((w : Int)))), (2, .int (iI (sm (F 11) (fun w : Nat => k_X4_comesTo F R (w : Int) c) w))), (0, .ref (ad 0)), (1, .int (iI (c)))]) hx hb dX4_smellOf_18 hl (by decide) rfl (fun ls hl => ?_)
        refine lv_iload_n hx hb dX4_smellOf_20 rfl (lv_at hl 2 rfl) ?_
        refine lv_iload hx hb dX4_smellOf_21 (lv_at hl 0 rfl) ?_
        refine jz_icmp_le (tgt := 33) C dX4_smellOf_23 (by decide) (by omega) (fun h23 => ?_) (fun h23 => ?_)
        · skip
          refine lv_iload hx hb dX4_smellOf_33 (lv_at hl 0 rfl) ?_
          refine lv_iload_n hx hb dX4_smellOf_35 rfl (lv_at hl 2 rfl) ?_
          refine jz_isub C dX4_smellOf_36 ?_
          refine lv_istore (lv' := [(5, .int (iI ((k_X4_comesTo F R (w : Int) c) - (sm (F 11) (fun w : Nat => k_X4_comesTo F R (w : Int) c) w)))), (4, .int (iI (k_X4_comesTo F R (w : Int) c))), (3, .int (iI ((w : Int)))), (2, .int (iI (sm (F 11) (fun w : Nat => k_X4_comesTo F R (w : Int) c) w))), (0, .ref (ad 0)), (1, .int (iI (c)))]) hx hb dX4_smellOf_37 hl (by decide) rfl (fun ls hl => ?_)
          refine lv_iload hx hb dX4_smellOf_39 (lv_at hl 1 rfl) ?_
          refine lv_iload_n hx hb dX4_smellOf_41 rfl (lv_at hl 3 rfl) ?_
          refine jz_icmp_le (tgt := 50) C dX4_smellOf_42 (by decide) (by omega) (fun h42 => ?_) (fun h42 => ?_)
          · skip
            refine lv_iload_n hx hb dX4_smellOf_50 rfl (lv_at hl 3 rfl) ?_
            refine lv_istore (lv' := [(6, .int (iI (sm (F 11) (fun w : Nat => k_X4_comesTo F R (w : Int) c) w))), (5, .int (iI ((k_X4_comesTo F R (w : Int) c) - (sm (F 11) (fun w : Nat => k_X4_comesTo F R (w : Int) c) w)))), (4, .int (iI (k_X4_comesTo F R (w : Int) c))), (3, .int (iI ((w : Int)))), (2, .int (iI (sm (F 11) (fun w : Nat => k_X4_comesTo F R (w : Int) c) w))), (0, .ref (ad 0)), (1, .int (iI (c)))]) hx hb dX4_smellOf_51 hl (by decide) rfl (fun ls hl => ?_)
            refine lv_aload_n hx hb dX4_smellOf_53 rfl (lv_at hl 5 rfl) ?_
            refine fg_M_lawNow C hin4 hE hP (v := F 11) (List.mem_of_getElem? (i := 2) rfl) dX4_smellOf_54 rfl ?_
            refine jz_if_ne (tgt := 67) C dX4_smellOf_57 (by decide) (by omega) (fun h57 => ?_) (fun h57 => ?_)
            · skip
              refine lv_aload_n hx hb dX4_smellOf_67 rfl (lv_at hl 5 rfl) ?_
              refine fg_M_lawNow C hin4 hE hP (v := F 11) (List.mem_of_getElem? (i := 2) rfl) dX4_smellOf_68 rfl ?_
              refine jz_const C dX4_smellOf_71 ?_
              refine jz_icmp_ne (tgt := 80) C dX4_smellOf_72 (by decide) (by omega) (fun h72 => ?_) (fun h72 => ?_)
              · skip
                refine lv_iload hx hb dX4_smellOf_80 (lv_at hl 2 rfl) ?_
                refine jz_if_le (tgt := 90) C dX4_smellOf_82 (by decide) (by omega) (fun h82 => ?_) (fun h82 => ?_)
                · skip
                  refine lv_iload_n hx hb dX4_smellOf_90 rfl (lv_at hl 4 rfl) ?_
                  refine lv_istore_n (lv' := [(2, .int (iI (sm (F 11) (fun w : Nat => k_X4_comesTo F R (w : Int) c) w))), (6, .int (iI (sm (F 11) (fun w : Nat => k_X4_comesTo F R (w : Int) c) w))), (5, .int (iI ((k_X4_comesTo F R (w : Int) c) - (sm (F 11) (fun w : Nat => k_X4_comesTo F R (w : Int) c) w)))), (4, .int (iI (k_X4_comesTo F R (w : Int) c))), (3, .int (iI ((w : Int)))), (0, .ref (ad 0)), (1, .int (iI (c)))]) hx hb dX4_smellOf_91 rfl hl (by decide) rfl (fun ls hl => ?_)
                  refine jz_iinc (k := 4) (z := (w : Int) + 1) (lv' := [(3, .int (iI ((w : Int) + 1))), (2, .int (iI (sm (F 11) (fun w : Nat => k_X4_comesTo F R (w : Int) c) w))), (6, .int (iI (sm (F 11) (fun w : Nat => k_X4_comesTo F R (w : Int) c) w))), (5, .int (iI ((k_X4_comesTo F R (w : Int) c) - (sm (F 11) (fun w : Nat => k_X4_comesTo F R (w : Int) c) w)))), (4, .int (iI (k_X4_comesTo F R (w : Int) c))), (0, .ref (ad 0)), (1, .int (iI (c)))]) C dX4_smellOf_92 hl rfl rfl (by decide) rfl (fun ls hl => ?_)
                  refine lv_goto (tgt := 4) hx hb dX4_smellOf_95 (by decide) ?_
                  have hl9 : lv_has ls 7 [(3, .int (iI ((w + 1 : Int)))), (2, .int (iI (sm (F 11) (fun w : Nat => k_X4_comesTo F R (w : Int) c) (w + 1)))), (0, .ref (ad 0)), (1, .int (iI (c)))] := by
                    rw [show (sm (F 11) (fun w : Nat => k_X4_comesTo F R (w : Int) c) (w + 1) : Int) = sm (F 11) (fun w : Nat => k_X4_comesTo F R (w : Int) c) w from by (refine Eq.trans smS ?_; show opz (F 11) (sm (F 11) (fun w : Nat => k_X4_comesTo F R (w : Int) c) w) (k_X4_comesTo F R (w : Int) c) = _; unfold opz; (repeat' split) <;> omega)]
                    exact lv_sub hl [0, 1, 5, 6] rfl
                  exact ih4 (w + 1) (by omega) (by omega) ls hl9
                · skip
                  refine lv_iload hx hb dX4_smellOf_85 (lv_at hl 1 rfl) ?_
                  refine lv_goto (tgt := 91) hx hb dX4_smellOf_87 (by decide) ?_
                  refine lv_istore_n (lv' := [(2, .int (iI ((k_X4_comesTo F R (w : Int) c) - (sm (F 11) (fun w : Nat => k_X4_comesTo F R (w : Int) c) w)))), (6, .int (iI (sm (F 11) (fun w : Nat => k_X4_comesTo F R (w : Int) c) w))), (5, .int (iI ((k_X4_comesTo F R (w : Int) c) - (sm (F 11) (fun w : Nat => k_X4_comesTo F R (w : Int) c) w)))), (4, .int (iI (k_X4_comesTo F R (w : Int) c))), (3, .int (iI ((w : Int)))), (0, .ref (ad 0)), (1, .int (iI (c)))]) hx hb dX4_smellOf_91 rfl hl (by decide) rfl (fun ls hl => ?_)
                  refine jz_iinc (k := 4) (z := (w : Int) + 1) (lv' := [(3, .int (iI ((w : Int) + 1))), (2, .int (iI ((k_X4_comesTo F R (w : Int) c) - (sm (F 11) (fun w : Nat => k_X4_comesTo F R (w : Int) c) w)))), (6, .int (iI (sm (F 11) (fun w : Nat => k_X4_comesTo F R (w : Int) c) w))), (5, .int (iI ((k_X4_comesTo F R (w : Int) c) - (sm (F 11) (fun w : Nat => k_X4_comesTo F R (w : Int) c) w)))), (4, .int (iI (k_X4_comesTo F R (w : Int) c))), (0, .ref (ad 0)), (1, .int (iI (c)))]) C dX4_smellOf_92 hl rfl rfl (by decide) rfl (fun ls hl => ?_)
                  refine lv_goto (tgt := 4) hx hb dX4_smellOf_95 (by decide) ?_
                  have hl9 : lv_has ls 7 [(3, .int (iI ((w + 1 : Int)))), (2, .int (iI (sm (F 11) (fun w : Nat => k_X4_comesTo F R (w : Int) c) (w + 1)))), (0, .ref (ad 0)), (1, .int (iI (c)))] := by
                    rw [show (sm (F 11) (fun w : Nat => k_X4_comesTo F R (w : Int) c) (w + 1) : Int) = (k_X4_comesTo F R (w : Int) c) - (sm (F 11) (fun w : Nat => k_X4_comesTo F R (w : Int) c) w) from by (refine Eq.trans smS ?_; show opz (F 11) (sm (F 11) (fun w : Nat => k_X4_comesTo F R (w : Int) c) w) (k_X4_comesTo F R (w : Int) c) = _; unfold opz; (repeat' split) <;> omega)]
                    exact lv_sub hl [0, 1, 5, 6] rfl
                  exact ih4 (w + 1) (by omega) (by omega) ls hl9
              · skip
                refine lv_iload hx hb dX4_smellOf_75 (lv_at hl 0 rfl) ?_
                refine lv_goto (tgt := 91) hx hb dX4_smellOf_77 (by decide) ?_
                refine lv_istore_n (lv' := [(2, .int (iI (sm (F 11) (fun w : Nat => k_X4_comesTo F R (w : Int) c) w))), (6, .int (iI (sm (F 11) (fun w : Nat => k_X4_comesTo F R (w : Int) c) w))), (5, .int (iI ((k_X4_comesTo F R (w : Int) c) - (sm (F 11) (fun w : Nat => k_X4_comesTo F R (w : Int) c) w)))), (4, .int (iI (k_X4_comesTo F R (w : Int) c))), (3, .int (iI ((w : Int)))), (0, .ref (ad 0)), (1, .int (iI (c)))]) hx hb dX4_smellOf_91 rfl hl (by decide) rfl (fun ls hl => ?_)
                refine jz_iinc (k := 4) (z := (w : Int) + 1) (lv' := [(3, .int (iI ((w : Int) + 1))), (2, .int (iI (sm (F 11) (fun w : Nat => k_X4_comesTo F R (w : Int) c) w))), (6, .int (iI (sm (F 11) (fun w : Nat => k_X4_comesTo F R (w : Int) c) w))), (5, .int (iI ((k_X4_comesTo F R (w : Int) c) - (sm (F 11) (fun w : Nat => k_X4_comesTo F R (w : Int) c) w)))), (4, .int (iI (k_X4_comesTo F R (w : Int) c))), (0, .ref (ad 0)), (1, .int (iI (c)))]) C dX4_smellOf_92 hl rfl rfl (by decide) rfl (fun ls hl => ?_)
                refine lv_goto (tgt := 4) hx hb dX4_smellOf_95 (by decide) ?_
                have hl9 : lv_has ls 7 [(3, .int (iI ((w + 1 : Int)))), (2, .int (iI (sm (F 11) (fun w : Nat => k_X4_comesTo F R (w : Int) c) (w + 1)))), (0, .ref (ad 0)), (1, .int (iI (c)))] := by
                  rw [show (sm (F 11) (fun w : Nat => k_X4_comesTo F R (w : Int) c) (w + 1) : Int) = sm (F 11) (fun w : Nat => k_X4_comesTo F R (w : Int) c) w from by (refine Eq.trans smS ?_; show opz (F 11) (sm (F 11) (fun w : Nat => k_X4_comesTo F R (w : Int) c) w) (k_X4_comesTo F R (w : Int) c) = _; unfold opz; (repeat' split) <;> omega)]
                  exact lv_sub hl [0, 1, 5, 6] rfl
                exact ih4 (w + 1) (by omega) (by omega) ls hl9
            · skip
              refine lv_iload_n hx hb dX4_smellOf_60 rfl (lv_at hl 4 rfl) ?_
              refine lv_iload hx hb dX4_smellOf_61 (lv_at hl 2 rfl) ?_
              refine jz_iadd C dX4_smellOf_63 ?_
              refine lv_goto (tgt := 91) hx hb dX4_smellOf_64 (by decide) ?_
              refine lv_istore_n (lv' := [(2, .int (iI ((sm (F 11) (fun w : Nat => k_X4_comesTo F R (w : Int) c) w) + (k_X4_comesTo F R (w : Int) c)))), (6, .int (iI (sm (F 11) (fun w : Nat => k_X4_comesTo F R (w : Int) c) w))), (5, .int (iI ((k_X4_comesTo F R (w : Int) c) - (sm (F 11) (fun w : Nat => k_X4_comesTo F R (w : Int) c) w)))), (4, .int (iI (k_X4_comesTo F R (w : Int) c))), (3, .int (iI ((w : Int)))), (0, .ref (ad 0)), (1, .int (iI (c)))]) hx hb dX4_smellOf_91 rfl hl (by decide) rfl (fun ls hl => ?_)
              refine jz_iinc (k := 4) (z := (w : Int) + 1) (lv' := [(3, .int (iI ((w : Int) + 1))), (2, .int (iI ((sm (F 11) (fun w : Nat => k_X4_comesTo F R (w : Int) c) w) + (k_X4_comesTo F R (w : Int) c)))), (6, .int (iI (sm (F 11) (fun w : Nat => k_X4_comesTo F R (w : Int) c) w))), (5, .int (iI ((k_X4_comesTo F R (w : Int) c) - (sm (F 11) (fun w : Nat => k_X4_comesTo F R (w : Int) c) w)))), (4, .int (iI (k_X4_comesTo F R (w : Int) c))), (0, .ref (ad 0)), (1, .int (iI (c)))]) C dX4_smellOf_92 hl rfl rfl (by decide) rfl (fun ls hl => ?_)
              refine lv_goto (tgt := 4) hx hb dX4_smellOf_95 (by decide) ?_
              have hl9 : lv_has ls 7 [(3, .int (iI ((w + 1 : Int)))), (2, .int (iI (sm (F 11) (fun w : Nat => k_X4_comesTo F R (w : Int) c) (w + 1)))), (0, .ref (ad 0)), (1, .int (iI (c)))] := by
                rw [show (sm (F 11) (fun w : Nat => k_X4_comesTo F R (w : Int) c) (w + 1) : Int) = (sm (F 11) (fun w : Nat => k_X4_comesTo F R (w : Int) c) w) + (k_X4_comesTo F R (w : Int) c) from by (refine Eq.trans smS ?_; show opz (F 11) (sm (F 11) (fun w : Nat => k_X4_comesTo F R (w : Int) c) w) (k_X4_comesTo F R (w : Int) c) = _; unfold opz; (repeat' split) <;> omega)]
                exact lv_sub hl [0, 1, 5, 6] rfl
              exact ih4 (w + 1) (by omega) (by omega) ls hl9
          · skip
            refine lv_iload hx hb dX4_smellOf_45 (lv_at hl 1 rfl) ?_
            refine lv_goto (tgt := 51) hx hb dX4_smellOf_47 (by decide) ?_
            refine lv_istore (lv' := [(6, .int (iI (k_X4_comesTo F R (w : Int) c))), (5, .int (iI ((k_X4_comesTo F R (w : Int) c) - (sm (F 11) (fun w : Nat => k_X4_comesTo F R (w : Int) c) w)))), (4, .int (iI (k_X4_comesTo F R (w : Int) c))), (3, .int (iI ((w : Int)))), (2, .int (iI (sm (F 11) (fun w : Nat => k_X4_comesTo F R (w : Int) c) w))), (0, .ref (ad 0)), (1, .int (iI (c)))]) hx hb dX4_smellOf_51 hl (by decide) rfl (fun ls hl => ?_)
            refine lv_aload_n hx hb dX4_smellOf_53 rfl (lv_at hl 5 rfl) ?_
            refine fg_M_lawNow C hin4 hE hP (v := F 11) (List.mem_of_getElem? (i := 2) rfl) dX4_smellOf_54 rfl ?_
            refine jz_if_ne (tgt := 67) C dX4_smellOf_57 (by decide) (by omega) (fun h57 => ?_) (fun h57 => ?_)
            · skip
              refine lv_aload_n hx hb dX4_smellOf_67 rfl (lv_at hl 5 rfl) ?_
              refine fg_M_lawNow C hin4 hE hP (v := F 11) (List.mem_of_getElem? (i := 2) rfl) dX4_smellOf_68 rfl ?_
              refine jz_const C dX4_smellOf_71 ?_
              refine jz_icmp_ne (tgt := 80) C dX4_smellOf_72 (by decide) (by omega) (fun h72 => ?_) (fun h72 => ?_)
              · skip
                refine lv_iload hx hb dX4_smellOf_80 (lv_at hl 2 rfl) ?_
                refine jz_if_le (tgt := 90) C dX4_smellOf_82 (by decide) (by omega) (fun h82 => ?_) (fun h82 => ?_)
                · skip
                  refine lv_iload_n hx hb dX4_smellOf_90 rfl (lv_at hl 4 rfl) ?_
                  refine lv_istore_n (lv' := [(2, .int (iI (sm (F 11) (fun w : Nat => k_X4_comesTo F R (w : Int) c) w))), (6, .int (iI (k_X4_comesTo F R (w : Int) c))), (5, .int (iI ((k_X4_comesTo F R (w : Int) c) - (sm (F 11) (fun w : Nat => k_X4_comesTo F R (w : Int) c) w)))), (4, .int (iI (k_X4_comesTo F R (w : Int) c))), (3, .int (iI ((w : Int)))), (0, .ref (ad 0)), (1, .int (iI (c)))]) hx hb dX4_smellOf_91 rfl hl (by decide) rfl (fun ls hl => ?_)
                  refine jz_iinc (k := 4) (z := (w : Int) + 1) (lv' := [(3, .int (iI ((w : Int) + 1))), (2, .int (iI (sm (F 11) (fun w : Nat => k_X4_comesTo F R (w : Int) c) w))), (6, .int (iI (k_X4_comesTo F R (w : Int) c))), (5, .int (iI ((k_X4_comesTo F R (w : Int) c) - (sm (F 11) (fun w : Nat => k_X4_comesTo F R (w : Int) c) w)))), (4, .int (iI (k_X4_comesTo F R (w : Int) c))), (0, .ref (ad 0)), (1, .int (iI (c)))]) C dX4_smellOf_92 hl rfl rfl (by decide) rfl (fun ls hl => ?_)
                  refine lv_goto (tgt := 4) hx hb dX4_smellOf_95 (by decide) ?_
                  have hl9 : lv_has ls 7 [(3, .int (iI ((w + 1 : Int)))), (2, .int (iI (sm (F 11) (fun w : Nat => k_X4_comesTo F R (w : Int) c) (w + 1)))), (0, .ref (ad 0)), (1, .int (iI (c)))] := by
                    rw [show (sm (F 11) (fun w : Nat => k_X4_comesTo F R (w : Int) c) (w + 1) : Int) = sm (F 11) (fun w : Nat => k_X4_comesTo F R (w : Int) c) w from by (refine Eq.trans smS ?_; show opz (F 11) (sm (F 11) (fun w : Nat => k_X4_comesTo F R (w : Int) c) w) (k_X4_comesTo F R (w : Int) c) = _; unfold opz; (repeat' split) <;> omega)]
                    exact lv_sub hl [0, 1, 5, 6] rfl
                  exact ih4 (w + 1) (by omega) (by omega) ls hl9
                · skip
                  refine lv_iload hx hb dX4_smellOf_85 (lv_at hl 1 rfl) ?_
                  refine lv_goto (tgt := 91) hx hb dX4_smellOf_87 (by decide) ?_
                  refine lv_istore_n (lv' := [(2, .int (iI ((k_X4_comesTo F R (w : Int) c) - (sm (F 11) (fun w : Nat => k_X4_comesTo F R (w : Int) c) w)))), (6, .int (iI (k_X4_comesTo F R (w : Int) c))), (5, .int (iI ((k_X4_comesTo F R (w : Int) c) - (sm (F 11) (fun w : Nat => k_X4_comesTo F R (w : Int) c) w)))), (4, .int (iI (k_X4_comesTo F R (w : Int) c))), (3, .int (iI ((w : Int)))), (0, .ref (ad 0)), (1, .int (iI (c)))]) hx hb dX4_smellOf_91 rfl hl (by decide) rfl (fun ls hl => ?_)
                  refine jz_iinc (k := 4) (z := (w : Int) + 1) (lv' := [(3, .int (iI ((w : Int) + 1))), (2, .int (iI ((k_X4_comesTo F R (w : Int) c) - (sm (F 11) (fun w : Nat => k_X4_comesTo F R (w : Int) c) w)))), (6, .int (iI (k_X4_comesTo F R (w : Int) c))), (5, .int (iI ((k_X4_comesTo F R (w : Int) c) - (sm (F 11) (fun w : Nat => k_X4_comesTo F R (w : Int) c) w)))), (4, .int (iI (k_X4_comesTo F R (w : Int) c))), (0, .ref (ad 0)), (1, .int (iI (c)))]) C dX4_smellOf_92 hl rfl rfl (by decide) rfl (fun ls hl => ?_)
                  refine lv_goto (tgt := 4) hx hb dX4_smellOf_95 (by decide) ?_
                  have hl9 : lv_has ls 7 [(3, .int (iI ((w + 1 : Int)))), (2, .int (iI (sm (F 11) (fun w : Nat => k_X4_comesTo F R (w : Int) c) (w + 1)))), (0, .ref (ad 0)), (1, .int (iI (c)))] := by
                    rw [show (sm (F 11) (fun w : Nat => k_X4_comesTo F R (w : Int) c) (w + 1) : Int) = (k_X4_comesTo F R (w : Int) c) - (sm (F 11) (fun w : Nat => k_X4_comesTo F R (w : Int) c) w) from by (refine Eq.trans smS ?_; show opz (F 11) (sm (F 11) (fun w : Nat => k_X4_comesTo F R (w : Int) c) w) (k_X4_comesTo F R (w : Int) c) = _; unfold opz; (repeat' split) <;> omega)]
                    exact lv_sub hl [0, 1, 5, 6] rfl
                  exact ih4 (w + 1) (by omega) (by omega) ls hl9
              · skip
                refine lv_iload hx hb dX4_smellOf_75 (lv_at hl 0 rfl) ?_
                refine lv_goto (tgt := 91) hx hb dX4_smellOf_77 (by decide) ?_
                refine lv_istore_n (lv' := [(2, .int (iI (k_X4_comesTo F R (w : Int) c))), (6, .int (iI (k_X4_comesTo F R (w : Int) c))), (5, .int (iI ((k_X4_comesTo F R (w : Int) c) - (sm (F 11) (fun w : Nat => k_X4_comesTo F R (w : Int) c) w)))), (4, .int (iI (k_X4_comesTo F R (w : Int) c))), (3, .int (iI ((w : Int)))), (0, .ref (ad 0)), (1, .int (iI (c)))]) hx hb dX4_smellOf_91 rfl hl (by decide) rfl (fun ls hl => ?_)
                refine jz_iinc (k := 4) (z := (w : Int) + 1) (lv' := [(3, .int (iI ((w : Int) + 1))), (2, .int (iI (k_X4_comesTo F R (w : Int) c))), (6, .int (iI (k_X4_comesTo F R (w : Int) c))), (5, .int (iI ((k_X4_comesTo F R (w : Int) c) - (sm (F 11) (fun w : Nat => k_X4_comesTo F R (w : Int) c) w)))), (4, .int (iI (k_X4_comesTo F R (w : Int) c))), (0, .ref (ad 0)), (1, .int (iI (c)))]) C dX4_smellOf_92 hl rfl rfl (by decide) rfl (fun ls hl => ?_)
                refine lv_goto (tgt := 4) hx hb dX4_smellOf_95 (by decide) ?_
                have hl9 : lv_has ls 7 [(3, .int (iI ((w + 1 : Int)))), (2, .int (iI (sm (F 11) (fun w : Nat => k_X4_comesTo F R (w : Int) c) (w + 1)))), (0, .ref (ad 0)), (1, .int (iI (c)))] := by
                  rw [show (sm (F 11) (fun w : Nat => k_X4_comesTo F R (w : Int) c) (w + 1) : Int) = k_X4_comesTo F R (w : Int) c from by (refine Eq.trans smS ?_; show opz (F 11) (sm (F 11) (fun w : Nat => k_X4_comesTo F R (w : Int) c) w) (k_X4_comesTo F R (w : Int) c) = _; unfold opz; (repeat' split) <;> omega)]
                  exact lv_sub hl [0, 1, 5, 6] rfl
                exact ih4 (w + 1) (by omega) (by omega) ls hl9
            · skip
              refine lv_iload_n hx hb dX4_smellOf_60 rfl (lv_at hl 4 rfl) ?_
              refine lv_iload hx hb dX4_smellOf_61 (lv_at hl 2 rfl) ?_
              refine jz_iadd C dX4_smellOf_63 ?_
              refine lv_goto (tgt := 91) hx hb dX4_smellOf_64 (by decide) ?_
              refine lv_istore_n (lv' := [(2, .int (iI ((sm (F 11) (fun w : Nat => k_X4_comesTo F R (w : Int) c) w) + (k_X4_comesTo F R (w : Int) c)))), (6, .int (iI (k_X4_comesTo F R (w : Int) c))), (5, .int (iI ((k_X4_comesTo F R (w : Int) c) - (sm (F 11) (fun w : Nat => k_X4_comesTo F R (w : Int) c) w)))), (4, .int (iI (k_X4_comesTo F R (w : Int) c))), (3, .int (iI ((w : Int)))), (0, .ref (ad 0)), (1, .int (iI (c)))]) hx hb dX4_smellOf_91 rfl hl (by decide) rfl (fun ls hl => ?_)
              refine jz_iinc (k := 4) (z := (w : Int) + 1) (lv' := [(3, .int (iI ((w : Int) + 1))), (2, .int (iI ((sm (F 11) (fun w : Nat => k_X4_comesTo F R (w : Int) c) w) + (k_X4_comesTo F R (w : Int) c)))), (6, .int (iI (k_X4_comesTo F R (w : Int) c))), (5, .int (iI ((k_X4_comesTo F R (w : Int) c) - (sm (F 11) (fun w : Nat => k_X4_comesTo F R (w : Int) c) w)))), (4, .int (iI (k_X4_comesTo F R (w : Int) c))), (0, .ref (ad 0)), (1, .int (iI (c)))]) C dX4_smellOf_92 hl rfl rfl (by decide) rfl (fun ls hl => ?_)
              refine lv_goto (tgt := 4) hx hb dX4_smellOf_95 (by decide) ?_
              have hl9 : lv_has ls 7 [(3, .int (iI ((w + 1 : Int)))), (2, .int (iI (sm (F 11) (fun w : Nat => k_X4_comesTo F R (w : Int) c) (w + 1)))), (0, .ref (ad 0)), (1, .int (iI (c)))] := by
                rw [show (sm (F 11) (fun w : Nat => k_X4_comesTo F R (w : Int) c) (w + 1) : Int) = (sm (F 11) (fun w : Nat => k_X4_comesTo F R (w : Int) c) w) + (k_X4_comesTo F R (w : Int) c) from by (refine Eq.trans smS ?_; show opz (F 11) (sm (F 11) (fun w : Nat => k_X4_comesTo F R (w : Int) c) w) (k_X4_comesTo F R (w : Int) c) = _; unfold opz; (repeat' split) <;> omega)]
                exact lv_sub hl [0, 1, 5, 6] rfl
              exact ih4 (w + 1) (by omega) (by omega) ls hl9
        · skip
          refine lv_iload_n hx hb dX4_smellOf_26 rfl (lv_at hl 2 rfl) ?_
          refine lv_iload hx hb dX4_smellOf_27 (lv_at hl 0 rfl) ?_
          refine jz_isub C dX4_smellOf_29 ?_
          refine lv_goto (tgt := 37) hx hb dX4_smellOf_30 (by decide) ?_
          refine lv_istore (lv' := [(5, .int (iI ((sm (F 11) (fun w : Nat => k_X4_comesTo F R (w : Int) c) w) - (k_X4_comesTo F R (w : Int) c)))), (4, .int (iI (k_X4_comesTo F R (w : Int) c))), (3, .int (iI ((w : Int)))), (2, .int (iI (sm (F 11) (fun w : Nat => k_X4_comesTo F R (w : Int) c) w))), (0, .ref (ad 0)), (1, .int (iI (c)))]) hx hb dX4_smellOf_37 hl (by decide) rfl (fun ls hl => ?_)
          refine lv_iload hx hb dX4_smellOf_39 (lv_at hl 1 rfl) ?_
          refine lv_iload_n hx hb dX4_smellOf_41 rfl (lv_at hl 3 rfl) ?_
          refine jz_icmp_le (tgt := 50) C dX4_smellOf_42 (by decide) (by omega) (fun h42 => ?_) (fun h42 => ?_)
          · skip
            refine lv_iload_n hx hb dX4_smellOf_50 rfl (lv_at hl 3 rfl) ?_
            refine lv_istore (lv' := [(6, .int (iI (sm (F 11) (fun w : Nat => k_X4_comesTo F R (w : Int) c) w))), (5, .int (iI ((sm (F 11) (fun w : Nat => k_X4_comesTo F R (w : Int) c) w) - (k_X4_comesTo F R (w : Int) c)))), (4, .int (iI (k_X4_comesTo F R (w : Int) c))), (3, .int (iI ((w : Int)))), (2, .int (iI (sm (F 11) (fun w : Nat => k_X4_comesTo F R (w : Int) c) w))), (0, .ref (ad 0)), (1, .int (iI (c)))]) hx hb dX4_smellOf_51 hl (by decide) rfl (fun ls hl => ?_)
            refine lv_aload_n hx hb dX4_smellOf_53 rfl (lv_at hl 5 rfl) ?_
            refine fg_M_lawNow C hin4 hE hP (v := F 11) (List.mem_of_getElem? (i := 2) rfl) dX4_smellOf_54 rfl ?_
            refine jz_if_ne (tgt := 67) C dX4_smellOf_57 (by decide) (by omega) (fun h57 => ?_) (fun h57 => ?_)
            · skip
              refine lv_aload_n hx hb dX4_smellOf_67 rfl (lv_at hl 5 rfl) ?_
              refine fg_M_lawNow C hin4 hE hP (v := F 11) (List.mem_of_getElem? (i := 2) rfl) dX4_smellOf_68 rfl ?_
              refine jz_const C dX4_smellOf_71 ?_
              refine jz_icmp_ne (tgt := 80) C dX4_smellOf_72 (by decide) (by omega) (fun h72 => ?_) (fun h72 => ?_)
              · skip
                refine lv_iload hx hb dX4_smellOf_80 (lv_at hl 2 rfl) ?_
                refine jz_if_le (tgt := 90) C dX4_smellOf_82 (by decide) (by omega) (fun h82 => ?_) (fun h82 => ?_)
                · skip
                  refine lv_iload_n hx hb dX4_smellOf_90 rfl (lv_at hl 4 rfl) ?_
                  refine lv_istore_n (lv' := [(2, .int (iI (sm (F 11) (fun w : Nat => k_X4_comesTo F R (w : Int) c) w))), (6, .int (iI (sm (F 11) (fun w : Nat => k_X4_comesTo F R (w : Int) c) w))), (5, .int (iI ((sm (F 11) (fun w : Nat => k_X4_comesTo F R (w : Int) c) w) - (k_X4_comesTo F R (w : Int) c)))), (4, .int (iI (k_X4_comesTo F R (w : Int) c))), (3, .int (iI ((w : Int)))), (0, .ref (ad 0)), (1, .int (iI (c)))]) hx hb dX4_smellOf_91 rfl hl (by decide) rfl (fun ls hl => ?_)
                  refine jz_iinc (k := 4) (z := (w : Int) + 1) (lv' := [(3, .int (iI ((w : Int) + 1))), (2, .int (iI (sm (F 11) (fun w : Nat => k_X4_comesTo F R (w : Int) c) w))), (6, .int (iI (sm (F 11) (fun w : Nat => k_X4_comesTo F R (w : Int) c) w))), (5, .int (iI ((sm (F 11) (fun w : Nat => k_X4_comesTo F R (w : Int) c) w) - (k_X4_comesTo F R (w : Int) c)))), (4, .int (iI (k_X4_comesTo F R (w : Int) c))), (0, .ref (ad 0)), (1, .int (iI (c)))]) C dX4_smellOf_92 hl rfl rfl (by decide) rfl (fun ls hl => ?_)
                  refine lv_goto (tgt := 4) hx hb dX4_smellOf_95 (by decide) ?_
                  have hl9 : lv_has ls 7 [(3, .int (iI ((w + 1 : Int)))), (2, .int (iI (sm (F 11) (fun w : Nat => k_X4_comesTo F R (w : Int) c) (w + 1)))), (0, .ref (ad 0)), (1, .int (iI (c)))] := by
                    rw [show (sm (F 11) (fun w : Nat => k_X4_comesTo F R (w : Int) c) (w + 1) : Int) = sm (F 11) (fun w : Nat => k_X4_comesTo F R (w : Int) c) w from by (refine Eq.trans smS ?_; show opz (F 11) (sm (F 11) (fun w : Nat => k_X4_comesTo F R (w : Int) c) w) (k_X4_comesTo F R (w : Int) c) = _; unfold opz; (repeat' split) <;> omega)]
                    exact lv_sub hl [0, 1, 5, 6] rfl
                  exact ih4 (w + 1) (by omega) (by omega) ls hl9
                · skip
                  refine lv_iload hx hb dX4_smellOf_85 (lv_at hl 1 rfl) ?_
                  refine lv_goto (tgt := 91) hx hb dX4_smellOf_87 (by decide) ?_
                  refine lv_istore_n (lv' := [(2, .int (iI ((sm (F 11) (fun w : Nat => k_X4_comesTo F R (w : Int) c) w) - (k_X4_comesTo F R (w : Int) c)))), (6, .int (iI (sm (F 11) (fun w : Nat => k_X4_comesTo F R (w : Int) c) w))), (5, .int (iI ((sm (F 11) (fun w : Nat => k_X4_comesTo F R (w : Int) c) w) - (k_X4_comesTo F R (w : Int) c)))), (4, .int (iI (k_X4_comesTo F R (w : Int) c))), (3, .int (iI ((w : Int)))), (0, .ref (ad 0)), (1, .int (iI (c)))]) hx hb dX4_smellOf_91 rfl hl (by decide) rfl (fun ls hl => ?_)
                  refine jz_iinc (k := 4) (z := (w : Int) + 1) (lv' := [(3, .int (iI ((w : Int) + 1))), (2, .int (iI ((sm (F 11) (fun w : Nat => k_X4_comesTo F R (w : Int) c) w) - (k_X4_comesTo F R (w : Int) c)))), (6, .int (iI (sm (F 11) (fun w : Nat => k_X4_comesTo F R (w : Int) c) w))), (5, .int (iI ((sm (F 11) (fun w : Nat => k_X4_comesTo F R (w : Int) c) w) - (k_X4_comesTo F R (w : Int) c)))), (4, .int (iI (k_X4_comesTo F R (w : Int) c))), (0, .ref (ad 0)), (1, .int (iI (c)))]) C dX4_smellOf_92 hl rfl rfl (by decide) rfl (fun ls hl => ?_)
                  refine lv_goto (tgt := 4) hx hb dX4_smellOf_95 (by decide) ?_
                  have hl9 : lv_has ls 7 [(3, .int (iI ((w + 1 : Int)))), (2, .int (iI (sm (F 11) (fun w : Nat => k_X4_comesTo F R (w : Int) c) (w + 1)))), (0, .ref (ad 0)), (1, .int (iI (c)))] := by
                    rw [show (sm (F 11) (fun w : Nat => k_X4_comesTo F R (w : Int) c) (w + 1) : Int) = (sm (F 11) (fun w : Nat => k_X4_comesTo F R (w : Int) c) w) - (k_X4_comesTo F R (w : Int) c) from by (refine Eq.trans smS ?_; show opz (F 11) (sm (F 11) (fun w : Nat => k_X4_comesTo F R (w : Int) c) w) (k_X4_comesTo F R (w : Int) c) = _; unfold opz; (repeat' split) <;> omega)]
                    exact lv_sub hl [0, 1, 5, 6] rfl
                  exact ih4 (w + 1) (by omega) (by omega) ls hl9
              · skip
                refine lv_iload hx hb dX4_smellOf_75 (lv_at hl 0 rfl) ?_
                refine lv_goto (tgt := 91) hx hb dX4_smellOf_77 (by decide) ?_
                refine lv_istore_n (lv' := [(2, .int (iI (sm (F 11) (fun w : Nat => k_X4_comesTo F R (w : Int) c) w))), (6, .int (iI (sm (F 11) (fun w : Nat => k_X4_comesTo F R (w : Int) c) w))), (5, .int (iI ((sm (F 11) (fun w : Nat => k_X4_comesTo F R (w : Int) c) w) - (k_X4_comesTo F R (w : Int) c)))), (4, .int (iI (k_X4_comesTo F R (w : Int) c))), (3, .int (iI ((w : Int)))), (0, .ref (ad 0)), (1, .int (iI (c)))]) hx hb dX4_smellOf_91 rfl hl (by decide) rfl (fun ls hl => ?_)
                refine jz_iinc (k := 4) (z := (w : Int) + 1) (lv' := [(3, .int (iI ((w : Int) + 1))), (2, .int (iI (sm (F 11) (fun w : Nat => k_X4_comesTo F R (w : Int) c) w))), (6, .int (iI (sm (F 11) (fun w : Nat => k_X4_comesTo F R (w : Int) c) w))), (5, .int (iI ((sm (F 11) (fun w : Nat => k_X4_comesTo F R (w : Int) c) w) - (k_X4_comesTo F R (w : Int) c)))), (4, .int (iI (k_X4_comesTo F R (w : Int) c))), (0, .ref (ad 0)), (1, .int (iI (c)))]) C dX4_smellOf_92 hl rfl rfl (by decide) rfl (fun ls hl => ?_)
                refine lv_goto (tgt := 4) hx hb dX4_smellOf_95 (by decide) ?_
                have hl9 : lv_has ls 7 [(3, .int (iI ((w + 1 : Int)))), (2, .int (iI (sm (F 11) (fun w : Nat => k_X4_comesTo F R (w : Int) c) (w + 1)))), (0, .ref (ad 0)), (1, .int (iI (c)))] := by
                  rw [show (sm (F 11) (fun w : Nat => k_X4_comesTo F R (w : Int) c) (w + 1) : Int) = sm (F 11) (fun w : Nat => k_X4_comesTo F R (w : Int) c) w from by (refine Eq.trans smS ?_; show opz (F 11) (sm (F 11) (fun w : Nat => k_X4_comesTo F R (w : Int) c) w) (k_X4_comesTo F R (w : Int) c) = _; unfold opz; (repeat' split) <;> omega)]
                  exact lv_sub hl [0, 1, 5, 6] rfl
                exact ih4 (w + 1) (by omega) (by omega) ls hl9
            · skip
              refine lv_iload_n hx hb dX4_smellOf_60 rfl (lv_at hl 4 rfl) ?_
              refine lv_iload hx hb dX4_smellOf_61 (lv_at hl 2 rfl) ?_
              refine jz_iadd C dX4_smellOf_63 ?_
              refine lv_goto (tgt := 91) hx hb dX4_smellOf_64 (by decide) ?_
              refine lv_istore_n (lv' := [(2, .int (iI ((sm (F 11) (fun w : Nat => k_X4_comesTo F R (w : Int) c) w) + (k_X4_comesTo F R (w : Int) c)))), (6, .int (iI (sm (F 11) (fun w : Nat => k_X4_comesTo F R (w : Int) c) w))), (5, .int (iI ((sm (F 11) (fun w : Nat => k_X4_comesTo F R (w : Int) c) w) - (k_X4_comesTo F R (w : Int) c)))), (4, .int (iI (k_X4_comesTo F R (w : Int) c))), (3, .int (iI ((w : Int)))), (0, .ref (ad 0)), (1, .int (iI (c)))]) hx hb dX4_smellOf_91 rfl hl (by decide) rfl (fun ls hl => ?_)
              refine jz_iinc (k := 4) (z := (w : Int) + 1) (lv' := [(3, .int (iI ((w : Int) + 1))), (2, .int (iI ((sm (F 11) (fun w : Nat => k_X4_comesTo F R (w : Int) c) w) + (k_X4_comesTo F R (w : Int) c)))), (6, .int (iI (sm (F 11) (fun w : Nat => k_X4_comesTo F R (w : Int) c) w))), (5, .int (iI ((sm (F 11) (fun w : Nat => k_X4_comesTo F R (w : Int) c) w) - (k_X4_comesTo F R (w : Int) c)))), (4, .int (iI (k_X4_comesTo F R (w : Int) c))), (0, .ref (ad 0)), (1, .int (iI (c)))]) C dX4_smellOf_92 hl rfl rfl (by decide) rfl (fun ls hl => ?_)
              refine lv_goto (tgt := 4) hx hb dX4_smellOf_95 (by decide) ?_
              have hl9 : lv_has ls 7 [(3, .int (iI ((w + 1 : Int)))), (2, .int (iI (sm (F 11) (fun w : Nat => k_X4_comesTo F R (w : Int) c) (w + 1)))), (0, .ref (ad 0)), (1, .int (iI (c)))] := by
                rw [show (sm (F 11) (fun w : Nat => k_X4_comesTo F R (w : Int) c) (w + 1) : Int) = (sm (F 11) (fun w : Nat => k_X4_comesTo F R (w : Int) c) w) + (k_X4_comesTo F R (w : Int) c) from by (refine Eq.trans smS ?_; show opz (F 11) (sm (F 11) (fun w : Nat => k_X4_comesTo F R (w : Int) c) w) (k_X4_comesTo F R (w : Int) c) = _; unfold opz; (repeat' split) <;> omega)]
                exact lv_sub hl [0, 1, 5, 6] rfl
              exact ih4 (w + 1) (by omega) (by omega) ls hl9
          · skip
            refine lv_iload hx hb dX4_smellOf_45 (lv_at hl 1 rfl) ?_
            refine lv_goto (tgt := 51) hx hb dX4_smellOf_47 (by decide) ?_
            refine lv_istore (lv' := [(6, .int (iI (k_X4_comesTo F R (w : Int) c))), (5, .int (iI ((sm (F 11) (fun w : Nat => k_X4_comesTo F R (w : Int) c) w) - (k_X4_comesTo F R (w : Int) c)))), (4, .int (iI (k_X4_comesTo F R (w : Int) c))), (3, .int (iI ((w : Int)))), (2, .int (iI (sm (F 11) (fun w : Nat => k_X4_comesTo F R (w : Int) c) w))), (0, .ref (ad 0)), (1, .int (iI (c)))]) hx hb dX4_smellOf_51 hl (by decide) rfl (fun ls hl => ?_)
            refine lv_aload_n hx hb dX4_smellOf_53 rfl (lv_at hl 5 rfl) ?_
            refine fg_M_lawNow C hin4 hE hP (v := F 11) (List.mem_of_getElem? (i := 2) rfl) dX4_smellOf_54 rfl ?_
            refine jz_if_ne (tgt := 67) C dX4_smellOf_57 (by decide) (by omega) (fun h57 => ?_) (fun h57 => ?_)
            · skip
              refine lv_aload_n hx hb dX4_smellOf_67 rfl (lv_at hl 5 rfl) ?_
              refine fg_M_lawNow C hin4 hE hP (v := F 11) (List.mem_of_getElem? (i := 2) rfl) dX4_smellOf_68 rfl ?_
              refine jz_const C dX4_smellOf_71 ?_
              refine jz_icmp_ne (tgt := 80) C dX4_smellOf_72 (by decide) (by omega) (fun h72 => ?_) (fun h72 => ?_)
              · skip
                refine lv_iload hx hb dX4_smellOf_80 (lv_at hl 2 rfl) ?_
                refine jz_if_le (tgt := 90) C dX4_smellOf_82 (by decide) (by omega) (fun h82 => ?_) (fun h82 => ?_)
                · skip
                  refine lv_iload_n hx hb dX4_smellOf_90 rfl (lv_at hl 4 rfl) ?_
                  refine lv_istore_n (lv' := [(2, .int (iI (sm (F 11) (fun w : Nat => k_X4_comesTo F R (w : Int) c) w))), (6, .int (iI (k_X4_comesTo F R (w : Int) c))), (5, .int (iI ((sm (F 11) (fun w : Nat => k_X4_comesTo F R (w : Int) c) w) - (k_X4_comesTo F R (w : Int) c)))), (4, .int (iI (k_X4_comesTo F R (w : Int) c))), (3, .int (iI ((w : Int)))), (0, .ref (ad 0)), (1, .int (iI (c)))]) hx hb dX4_smellOf_91 rfl hl (by decide) rfl (fun ls hl => ?_)
                  refine jz_iinc (k := 4) (z := (w : Int) + 1) (lv' := [(3, .int (iI ((w : Int) + 1))), (2, .int (iI (sm (F 11) (fun w : Nat => k_X4_comesTo F R (w : Int) c) w))), (6, .int (iI (k_X4_comesTo F R (w : Int) c))), (5, .int (iI ((sm (F 11) (fun w : Nat => k_X4_comesTo F R (w : Int) c) w) - (k_X4_comesTo F R (w : Int) c)))), (4, .int (iI (k_X4_comesTo F R (w : Int) c))), (0, .ref (ad 0)), (1, .int (iI (c)))]) C dX4_smellOf_92 hl rfl rfl (by decide) rfl (fun ls hl => ?_)
                  refine lv_goto (tgt := 4) hx hb dX4_smellOf_95 (by decide) ?_
                  have hl9 : lv_has ls 7 [(3, .int (iI ((w + 1 : Int)))), (2, .int (iI (sm (F 11) (fun w : Nat => k_X4_comesTo F R (w : Int) c) (w + 1)))), (0, .ref (ad 0)), (1, .int (iI (c)))] := by
                    rw [show (sm (F 11) (fun w : Nat => k_X4_comesTo F R (w : Int) c) (w + 1) : Int) = sm (F 11) (fun w : Nat => k_X4_comesTo F R (w : Int) c) w from by (refine Eq.trans smS ?_; show opz (F 11) (sm (F 11) (fun w : Nat => k_X4_comesTo F R (w : Int) c) w) (k_X4_comesTo F R (w : Int) c) = _; unfold opz; (repeat' split) <;> omega)]
                    exact lv_sub hl [0, 1, 5, 6] rfl
                  exact ih4 (w + 1) (by omega) (by omega) ls hl9
                · skip
                  refine lv_iload hx hb dX4_smellOf_85 (lv_at hl 1 rfl) ?_
                  refine lv_goto (tgt := 91) hx hb dX4_smellOf_87 (by decide) ?_
                  refine lv_istore_n (lv' := [(2, .int (iI ((sm (F 11) (fun w : Nat => k_X4_comesTo F R (w : Int) c) w) - (k_X4_comesTo F R (w : Int) c)))), (6, .int (iI (k_X4_comesTo F R (w : Int) c))), (5, .int (iI ((sm (F 11) (fun w : Nat => k_X4_comesTo F R (w : Int) c) w) - (k_X4_comesTo F R (w : Int) c)))), (4, .int (iI (k_X4_comesTo F R (w : Int) c))), (3, .int (iI ((w : Int)))), (0, .ref (ad 0)), (1, .int (iI (c)))]) hx hb dX4_smellOf_91 rfl hl (by decide) rfl (fun ls hl => ?_)
                  refine jz_iinc (k := 4) (z := (w : Int) + 1) (lv' := [(3, .int (iI ((w : Int) + 1))), (2, .int (iI ((sm (F 11) (fun w : Nat => k_X4_comesTo F R (w : Int) c) w) - (k_X4_comesTo F R (w : Int) c)))), (6, .int (iI (k_X4_comesTo F R (w : Int) c))), (5, .int (iI ((sm (F 11) (fun w : Nat => k_X4_comesTo F R (w : Int) c) w) - (k_X4_comesTo F R (w : Int) c)))), (4, .int (iI (k_X4_comesTo F R (w : Int) c))), (0, .ref (ad 0)), (1, .int (iI (c)))]) C dX4_smellOf_92 hl rfl rfl (by decide) rfl (fun ls hl => ?_)
                  refine lv_goto (tgt := 4) hx hb dX4_smellOf_95 (by decide) ?_
                  have hl9 : lv_has ls 7 [(3, .int (iI ((w + 1 : Int)))), (2, .int (iI (sm (F 11) (fun w : Nat => k_X4_comesTo F R (w : Int) c) (w + 1)))), (0, .ref (ad 0)), (1, .int (iI (c)))] := by
                    rw [show (sm (F 11) (fun w : Nat => k_X4_comesTo F R (w : Int) c) (w + 1) : Int) = (sm (F 11) (fun w : Nat => k_X4_comesTo F R (w : Int) c) w) - (k_X4_comesTo F R (w : Int) c) from by (refine Eq.trans smS ?_; show opz (F 11) (sm (F 11) (fun w : Nat => k_X4_comesTo F R (w : Int) c) w) (k_X4_comesTo F R (w : Int) c) = _; unfold opz; (repeat' split) <;> omega)]
                    exact lv_sub hl [0, 1, 5, 6] rfl
                  exact ih4 (w + 1) (by omega) (by omega) ls hl9
              · skip
                refine lv_iload hx hb dX4_smellOf_75 (lv_at hl 0 rfl) ?_
                refine lv_goto (tgt := 91) hx hb dX4_smellOf_77 (by decide) ?_
                refine lv_istore_n (lv' := [(2, .int (iI (k_X4_comesTo F R (w : Int) c))), (6, .int (iI (k_X4_comesTo F R (w : Int) c))), (5, .int (iI ((sm (F 11) (fun w : Nat => k_X4_comesTo F R (w : Int) c) w) - (k_X4_comesTo F R (w : Int) c)))), (4, .int (iI (k_X4_comesTo F R (w : Int) c))), (3, .int (iI ((w : Int)))), (0, .ref (ad 0)), (1, .int (iI (c)))]) hx hb dX4_smellOf_91 rfl hl (by decide) rfl (fun ls hl => ?_)
                refine jz_iinc (k := 4) (z := (w : Int) + 1) (lv' := [(3, .int (iI ((w : Int) + 1))), (2, .int (iI (k_X4_comesTo F R (w : Int) c))), (6, .int (iI (k_X4_comesTo F R (w : Int) c))), (5, .int (iI ((sm (F 11) (fun w : Nat => k_X4_comesTo F R (w : Int) c) w) - (k_X4_comesTo F R (w : Int) c)))), (4, .int (iI (k_X4_comesTo F R (w : Int) c))), (0, .ref (ad 0)), (1, .int (iI (c)))]) C dX4_smellOf_92 hl rfl rfl (by decide) rfl (fun ls hl => ?_)
                refine lv_goto (tgt := 4) hx hb dX4_smellOf_95 (by decide) ?_
                have hl9 : lv_has ls 7 [(3, .int (iI ((w + 1 : Int)))), (2, .int (iI (sm (F 11) (fun w : Nat => k_X4_comesTo F R (w : Int) c) (w + 1)))), (0, .ref (ad 0)), (1, .int (iI (c)))] := by
                  rw [show (sm (F 11) (fun w : Nat => k_X4_comesTo F R (w : Int) c) (w + 1) : Int) = k_X4_comesTo F R (w : Int) c from by (refine Eq.trans smS ?_; show opz (F 11) (sm (F 11) (fun w : Nat => k_X4_comesTo F R (w : Int) c) w) (k_X4_comesTo F R (w : Int) c) = _; unfold opz; (repeat' split) <;> omega)]
                  exact lv_sub hl [0, 1, 5, 6] rfl
                exact ih4 (w + 1) (by omega) (by omega) ls hl9
            · skip
              refine lv_iload_n hx hb dX4_smellOf_60 rfl (lv_at hl 4 rfl) ?_
              refine lv_iload hx hb dX4_smellOf_61 (lv_at hl 2 rfl) ?_
              refine jz_iadd C dX4_smellOf_63 ?_
              refine lv_goto (tgt := 91) hx hb dX4_smellOf_64 (by decide) ?_
              refine lv_istore_n (lv' := [(2, .int (iI ((sm (F 11) (fun w : Nat => k_X4_comesTo F R (w : Int) c) w) + (k_X4_comesTo F R (w : Int) c)))), (6, .int (iI (k_X4_comesTo F R (w : Int) c))), (5, .int (iI ((sm (F 11) (fun w : Nat => k_X4_comesTo F R (w : Int) c) w) - (k_X4_comesTo F R (w : Int) c)))), (4, .int (iI (k_X4_comesTo F R (w : Int) c))), (3, .int (iI ((w : Int)))), (0, .ref (ad 0)), (1, .int (iI (c)))]) hx hb dX4_smellOf_91 rfl hl (by decide) rfl (fun ls hl => ?_)
              refine jz_iinc (k := 4) (z := (w : Int) + 1) (lv' := [(3, .int (iI ((w : Int) + 1))), (2, .int (iI ((sm (F 11) (fun w : Nat => k_X4_comesTo F R (w : Int) c) w) + (k_X4_comesTo F R (w : Int) c)))), (6, .int (iI (k_X4_comesTo F R (w : Int) c))), (5, .int (iI ((sm (F 11) (fun w : Nat => k_X4_comesTo F R (w : Int) c) w) - (k_X4_comesTo F R (w : Int) c)))), (4, .int (iI (k_X4_comesTo F R (w : Int) c))), (0, .ref (ad 0)), (1, .int (iI (c)))]) C dX4_smellOf_92 hl rfl rfl (by decide) rfl (fun ls hl => ?_)
              refine lv_goto (tgt := 4) hx hb dX4_smellOf_95 (by decide) ?_
              have hl9 : lv_has ls 7 [(3, .int (iI ((w + 1 : Int)))), (2, .int (iI (sm (F 11) (fun w : Nat => k_X4_comesTo F R (w : Int) c) (w + 1)))), (0, .ref (ad 0)), (1, .int (iI (c)))] := by
                rw [show (sm (F 11) (fun w : Nat => k_X4_comesTo F R (w : Int) c) (w + 1) : Int) = (sm (F 11) (fun w : Nat => k_X4_comesTo F R (w : Int) c) w) + (k_X4_comesTo F R (w : Int) c) from by (refine Eq.trans smS ?_; show opz (F 11) (sm (F 11) (fun w : Nat => k_X4_comesTo F R (w : Int) c) w) (k_X4_comesTo F R (w : Int) c) = _; unfold opz; (repeat' split) <;> omega)]
                exact lv_sub hl [0, 1, 5, 6] rfl
              exact ih4 (w + 1) (by omega) (by omega) ls hl9
  exact key4 (Int.toNat (F 3 - (0 : Int)) + 1) 0 (by omega) (by omega) ls (lv_sub hl [0, 1, 2, 3] rfl)
abbrev rm_X4_mindsNow : Room := { frames := 2, cells := 0, slots := 0, locals := 52 }
set_option maxHeartbeats 4000000 in
set_option maxRecDepth 100000 in
theorem c_X4_mindsNow {l : Launch} {D : va_G} {cI cS : ClassId} {ad : Nat → Nat} {F : Nat → Int} {R : Nat → Nat → Int}  (k : Int)  (hM : MI F R) (hk : 0 ≤ k ∧ k < 6): JS l yX4_mindsNow wsX4_mindsNow rm_X4_mindsNow (jB D cI cS (wM cI ad F R)) [.ref (ad 0), .int (iI (k))] (.int (iI (mm F R (Int.toNat k)))) := by
  refine JS.mkI rfl (by decide +kernel) rfl (Nat.le_of_ble_eq_true rfl) ?_
  intro p e st mi ar bl mth cd Q ls C hB hl hret
  obtain ⟨hE, hP⟩ := hB
  have hx := C.1
  have hb := C.2.1
  have hl : lv_has ls 2 [(0, .ref (ad 0)), (1, .int (iI (k)))] := hl
  have hin4 : ∀ w ∈ wsX40, w ∈ wsX4_mindsNow := fun _ h => List.mem_cons_of_mem _ (List.mem_append_right _ h)
  have h8 := hM.wcell (Int.toNat k) (by omega)
  refine lv_aload_n hx hb dX4_mindsNow_0 rfl (lv_at hl 0 rfl) ?_
  refine lv_iload_n hx hb dX4_mindsNow_1 rfl (lv_at hl 1 rfl) ?_
  refine jc_V C hl.1 (jpreV hE hP 4 0 rfl rfl) (c_X4_mindsOfOne k (by first | exact hM | assumption) (show 0 ≤ k ∧ k < 6 from (by omega))) (cwV 1 C.2.2.2.2 gX4_mindsNow_X4_mindsOfOne rfl rfl rfl (by decide +kernel) ⟨Nat.le_of_ble_eq_true rfl, Nat.le_of_ble_eq_true rfl⟩) (As := [.int (iI (k))]) (v := .int (iI (fz (R 9 (Int.toNat k)) (R 10 (Int.toNat k))))) (hn := rfl) (hst := rfl) (rest := []) (hW := Nat.le_of_ble_eq_true rfl) (hdg := dX4_mindsNow_2) (hf := ⟨Nat.le_of_ble_eq_true rfl, Nat.le_of_ble_eq_true rfl⟩) ?_
  refine lv_aload_n hx hb dX4_mindsNow_5 rfl (lv_at hl 0 rfl) ?_
  refine lv_aload_n hx hb dX4_mindsNow_6 rfl (lv_at hl 0 rfl) ?_
  refine fg_M_wardIn C hin4 hE hP (List.mem_of_getElem? (i := 1) rfl) dX4_mindsNow_7 ?_
  refine lv_iload_n hx hb dX4_mindsNow_10 rfl (lv_at hl 1 rfl) ?_
  refine fl_M_wardIn C hE hP (v := R 8 (Int.toNat k)) dX4_mindsNow_11 (by omega) rfl ?_
  refine jc_V C hl.1 (jpreV hE hP 4 0 rfl rfl) (c_X4_smellOf (R 8 (Int.toNat k)) (by first | exact hM | assumption) (show 0 ≤ (R 8 (Int.toNat k)) ∧ (R 8 (Int.toNat k)) < 24 from (by omega))) (cwV 1 C.2.2.2.2 gX4_mindsNow_X4_smellOf rfl rfl rfl (by decide +kernel) ⟨Nat.le_of_ble_eq_true rfl, Nat.le_of_ble_eq_true rfl⟩) (As := [.int (iI (R 8 (Int.toNat k)))]) (v := .int (iI (ms F R (R 8 (Int.toNat k))))) (hn := rfl) (hst := rfl) (rest := [.int (iI (fz (R 9 (Int.toNat k)) (R 10 (Int.toNat k))))]) (hW := Nat.le_of_ble_eq_true rfl) (hdg := dX4_mindsNow_12) (hf := ⟨Nat.le_of_ble_eq_true rfl, Nat.le_of_ble_eq_true rfl⟩) ?_
  refine jz_imul C dX4_mindsNow_15 ?_
  exact jz_ret (show (mm F R (Int.toNat k) : Int) = (fz (R 9 (Int.toNat k)) (R 10 (Int.toNat k))) * (ms F R (R 8 (Int.toNat k))) from by rfl) (hret _ _ dX4_mindsNow_16)
abbrev rm_X4_burdenNow : Room := { frames := 3, cells := 0, slots := 0, locals := 73 }
set_option maxHeartbeats 4000000 in
set_option maxRecDepth 100000 in
theorem c_X4_burdenNow {l : Launch} {D : va_G} {cI cS : ClassId} {ad : Nat → Nat} {F : Nat → Int} {R : Nat → Nat → Int}    (hM : MI F R): JS l yX4_burdenNow wsX4_burdenNow rm_X4_burdenNow (jB D cI cS (wM cI ad F R)) [.ref (ad 0)] (.int (iI (su (mm F R) (Int.toNat (F 7))))) := by
  refine JS.mkI rfl (by decide +kernel) rfl (Nat.le_of_ble_eq_true rfl) ?_
  intro p e st mi ar bl mth cd Q ls C hB hl hret
  obtain ⟨hE, hP⟩ := hB
  have hx := C.1
  have hb := C.2.1
  have hl : lv_has ls 3 [(0, .ref (ad 0))] := hl
  have hin4 : ∀ w ∈ wsX40, w ∈ wsX4_burdenNow := fun _ h => List.mem_cons_of_mem _ (List.mem_append_right _ h)
  have hK := hM.wards
  refine jz_const C dX4_burdenNow_0 ?_
  refine lv_istore_n (lv' := [(1, .int (iI (0))), (0, .ref (ad 0))]) hx hb dX4_burdenNow_1 rfl hl (by decide) rfl (fun ls hl => ?_)
  refine jz_const C dX4_burdenNow_2 ?_
  refine lv_istore_n (lv' := [(2, .int (iI (0))), (1, .int (iI (0))), (0, .ref (ad 0))]) hx hb dX4_burdenNow_3 rfl hl (by decide) rfl (fun ls hl => ?_)
  have key4 : ∀ (n4 : Nat) (k : Nat) (hk : (k : Int) ≤ F 7), (F 7 - (k : Int) : Int) < n4 → ∀ (ls : Array Slot), lv_has ls 3 [(2, .int (iI ((k : Int)))), (1, .int (iI (su (mm F R) k))), (0, .ref (ad 0))] → W p l e rm_X4_burdenNow st mi ar bl mth cd st.heap [] 0 0 Q (F0 mi 4 ls []) := by
    intro n4
    induction n4 with
    | zero => intro k hk hn9; exfalso; omega
    | succ n4 ih4 =>
      intro k hk hn9 ls hl
      refine lv_iload_n hx hb dX4_burdenNow_4 rfl (lv_at hl 0 rfl) ?_
      refine lv_aload_n hx hb dX4_burdenNow_5 rfl (lv_at hl 2 rfl) ?_
      refine fg_M_wards C hin4 hE hP (v := F 7) (List.mem_of_getElem? (i := 1) rfl) dX4_burdenNow_6 rfl ?_
      refine jz_icmp_ge (tgt := 26) C dX4_burdenNow_9 (by decide) (by omega) (fun h9 => ?_) (fun h9 => ?_)
      · skip
        refine lv_iload_n hx hb dX4_burdenNow_26 rfl (lv_at hl 1 rfl) ?_
        exact jz_ret (show (su (mm F R) (Int.toNat (F 7)) : Int) = su (mm F R) k from by rw [show k = Int.toNat (F 7) by omega]) (hret _ _ dX4_burdenNow_27)
      · skip
        have hsu := su_bd (f := mm F R) (n := k) (b := 720) (fun x hx => mm_bd hM (by omega))
        refine lv_iload_n hx hb dX4_burdenNow_12 rfl (lv_at hl 1 rfl) ?_
        refine lv_aload_n hx hb dX4_burdenNow_13 rfl (lv_at hl 2 rfl) ?_
        refine lv_iload_n hx hb dX4_burdenNow_14 rfl (lv_at hl 0 rfl) ?_
        refine jc_V C hl.1 (jpreV hE hP 4 0 rfl rfl) (c_X4_mindsNow (k : Int) (by first | exact hM | assumption) (show 0 ≤ (k : Int) ∧ (k : Int) < 6 from (by omega))) (cwV 1 C.2.2.2.2 gX4_burdenNow_X4_mindsNow rfl rfl rfl (by decide +kernel) ⟨Nat.le_of_ble_eq_true rfl, Nat.le_of_ble_eq_true rfl⟩) (As := [.int (iI ((k : Int)))]) (v := .int (iI (mm F R k))) (hn := rfl) (hst := rfl) (rest := [.int (iI (su (mm F R) k))]) (hW := Nat.le_of_ble_eq_true rfl) (hdg := dX4_burdenNow_15) (hf := ⟨Nat.le_of_ble_eq_true rfl, Nat.le_of_ble_eq_true rfl⟩) ?_
        refine jz_iadd C dX4_burdenNow_18 ?_
        refine lv_istore_n (lv' := [(1, .int (iI ((su (mm F R) k) + (mm F R k)))), (2, .int (iI ((k : Int)))), (0, .ref (ad 0))]) hx hb dX4_burdenNow_19 rfl hl (by decide) rfl (fun ls hl => ?_)
        refine jz_iinc (k := 1) (z := (k : Int) + 1) (lv' := [(2, .int (iI ((k : Int) + 1))), (1, .int (iI ((su (mm F R) k) + (mm F R k)))), (0, .ref (ad 0))]) C dX4_burdenNow_20 hl rfl rfl (by decide) rfl (fun ls hl => ?_)
        refine lv_goto (tgt := 4) hx hb dX4_burdenNow_23 (by decide) ?_
        exact ih4 (k + 1) (by omega) (by omega) ls (lv_sub hl [0, 1, 2] rfl)
  exact key4 (Int.toNat (F 7 - (0 : Int)) + 1) 0 (by omega) (by omega) ls (lv_sub hl [0, 1, 2] rfl)
abbrev rm_X4_mostMinded : Room := { frames := 3, cells := 0, slots := 0, locals := 73 }
set_option maxHeartbeats 4000000 in
set_option maxRecDepth 100000 in
theorem c_X4_mostMinded {l : Launch} {D : va_G} {cI cS : ClassId} {ad : Nat → Nat} {F : Nat → Int} {R : Nat → Nat → Int}    (hM : MI F R): JS l yX4_mostMinded wsX4_mostMinded rm_X4_mostMinded (jB D cI cS (wM cI ad F R)) [.ref (ad 0)] (.int (iI (mx (mm F R) (Int.toNat (F 7))))) := by
  refine JS.mkI rfl (by decide +kernel) rfl (Nat.le_of_ble_eq_true rfl) ?_
  intro p e st mi ar bl mth cd Q ls C hB hl hret
  obtain ⟨hE, hP⟩ := hB
  have hx := C.1
  have hb := C.2.1
  have hl : lv_has ls 3 [(0, .ref (ad 0))] := hl
  have hin4 : ∀ w ∈ wsX40, w ∈ wsX4_mostMinded := fun _ h => List.mem_cons_of_mem _ (List.mem_append_right _ h)
  have hK := hM.wards
  refine jz_const C dX4_mostMinded_0 ?_
  refine lv_istore_n (lv' := [(1, .int (iI (0))), (0, .ref (ad 0))]) hx hb dX4_mostMinded_1 rfl hl (by decide) rfl (fun ls hl => ?_)
  refine jz_const C dX4_mostMinded_2 ?_
  refine lv_istore_n (lv' := [(2, .int (iI (0))), (1, .int (iI (0))), (0, .ref (ad 0))]) hx hb dX4_mostMinded_3 rfl hl (by decide) rfl (fun ls hl => ?_)
  have key4 : ∀ (n4 : Nat) (k : Nat) (hk : (k : Int) ≤ F 7), (F 7 - (k : Int) : Int) < n4 → ∀ (ls : Array Slot), lv_has ls 3 [(2, .int (iI ((k : Int)))), (1, .int (iI (mx (mm F R) k))), (0, .ref (ad 0))] → W p l e rm_X4_mostMinded st mi ar bl mth cd st.heap [] 0 0 Q (F0 mi 4 ls []) := by
    intro n4
    induction n4 with
    | zero => intro k hk hn9; exfalso; omega
    | succ n4 ih4 =>
      intro k hk hn9 ls hl
      refine lv_iload_n hx hb dX4_mostMinded_4 rfl (lv_at hl 0 rfl) ?_
      refine lv_aload_n hx hb dX4_mostMinded_5 rfl (lv_at hl 2 rfl) ?_
      refine fg_M_wards C hin4 hE hP (v := F 7) (List.mem_of_getElem? (i := 1) rfl) dX4_mostMinded_6 rfl ?_
      refine jz_icmp_ge (tgt := 37) C dX4_mostMinded_9 (by decide) (by omega) (fun h9 => ?_) (fun h9 => ?_)
      · skip
        refine lv_iload_n hx hb dX4_mostMinded_37 rfl (lv_at hl 1 rfl) ?_
        exact jz_ret (show (mx (mm F R) (Int.toNat (F 7)) : Int) = mx (mm F R) k from by rw [show k = Int.toNat (F 7) by omega]) (hret _ _ dX4_mostMinded_38)
      · skip
        have hmx := mx_bd (f := mm F R) (n := k) (b := 720) (by omega) (fun x hx => mm_bd hM (by omega))
        have hmk := mm_bd hM (k := k) (by omega)
        refine lv_aload_n hx hb dX4_mostMinded_12 rfl (lv_at hl 2 rfl) ?_
        refine lv_iload_n hx hb dX4_mostMinded_13 rfl (lv_at hl 0 rfl) ?_
        refine jc_V C hl.1 (jpreV hE hP 4 0 rfl rfl) (c_X4_mindsNow (k : Int) (by first | exact hM | assumption) (show 0 ≤ (k : Int) ∧ (k : Int) < 6 from (by omega))) (cwV 1 C.2.2.2.2 gX4_mostMinded_X4_mindsNow rfl rfl rfl (by decide +kernel) ⟨Nat.le_of_ble_eq_true rfl, Nat.le_of_ble_eq_true rfl⟩) (As := [.int (iI ((k : Int)))]) (v := .int (iI (mm F R k))) (hn := rfl) (hst := rfl) (rest := []) (hW := Nat.le_of_ble_eq_true rfl) (hdg := dX4_mostMinded_14) (hf := ⟨Nat.le_of_ble_eq_true rfl, Nat.le_of_ble_eq_true rfl⟩) ?_
        refine lv_iload_n hx hb dX4_mostMinded_17 rfl (lv_at hl 1 rfl) ?_
        refine jz_icmp_le (tgt := 29) C dX4_mostMinded_18 (by decide) (by omega) (fun h18 => ?_) (fun h18 => ?_)
        · skip
          refine lv_iload_n hx hb dX4_mostMinded_29 rfl (lv_at hl 1 rfl) ?_
          refine lv_istore_n (lv' := [(1, .int (iI (mx (mm F R) k))), (2, .int (iI ((k : Int)))), (0, .ref (ad 0))]) hx hb dX4_mostMinded_30 rfl hl (by decide) rfl (fun ls hl => ?_)
          refine jz_iinc (k := 1) (z := (k : Int) + 1) (lv' := [(2, .int (iI ((k : Int) + 1))), (1, .int (iI (mx (mm F R) k))), (0, .ref (ad 0))]) C dX4_mostMinded_31 hl rfl rfl (by decide) rfl (fun ls hl => ?_)
          refine lv_goto (tgt := 4) hx hb dX4_mostMinded_34 (by decide) ?_
          have hl9 : lv_has ls 3 [(2, .int (iI ((k + 1 : Int)))), (1, .int (iI (mx (mm F R) (k + 1)))), (0, .ref (ad 0))] := by
            rw [show (mx (mm F R) (k + 1) : Int) = mx (mm F R) k from by simp only [mx]; split <;> omega]
            exact lv_sub hl [0, 1, 2] rfl
          exact ih4 (k + 1) (by omega) (by omega) ls hl9
        · skip
          refine lv_aload_n hx hb dX4_mostMinded_21 rfl (lv_at hl 2 rfl) ?_
          refine lv_iload_n hx hb dX4_mostMinded_22 rfl (lv_at hl 0 rfl) ?_
          refine jc_V C hl.1 (jpreV hE hP 4 0 rfl rfl) (c_X4_mindsNow (k : Int) (by first | exact hM | assumption) (show 0 ≤ (k : Int) ∧ (k : Int) < 6 from (by omega))) (cwV 1 C.2.2.2.2 gX4_mostMinded_X4_mindsNow rfl rfl rfl (by decide +kernel) ⟨Nat.le_of_ble_eq_true rfl, Nat.le_of_ble_eq_true rfl⟩) (As := [.int (iI ((k : Int)))]) (v := .int (iI (mm F R k))) (hn := rfl) (hst := rfl) (rest := []) (hW := Nat.le_of_ble_eq_true rfl) (hdg := dX4_mostMinded_23) (hf := ⟨Nat.le_of_ble_eq_true rfl, Nat.le_of_ble_eq_true rfl⟩) ?_
          refine lv_goto (tgt := 30) hx hb dX4_mostMinded_26 (by decide) ?_
          refine lv_istore_n (lv' := [(1, .int (iI (mm F R k))), (2, .int (iI ((k : Int)))), (0, .ref (ad 0))]) hx hb dX4_mostMinded_30 rfl hl (by decide) rfl (fun ls hl => ?_)
          refine jz_iinc (k := 1) (z := (k : Int) + 1) (lv' := [(2, .int (iI ((k : Int) + 1))), (1, .int (iI (mm F R k))), (0, .ref (ad 0))]) C dX4_mostMinded_31 hl rfl rfl (by decide) rfl (fun ls hl => ?_)
          refine lv_goto (tgt := 4) hx hb dX4_mostMinded_34 (by decide) ?_
          have hl9 : lv_has ls 3 [(2, .int (iI ((k + 1 : Int)))), (1, .int (iI (mx (mm F R) (k + 1)))), (0, .ref (ad 0))] := by
            rw [show (mx (mm F R) (k + 1) : Int) = mm F R k from by simp only [mx]; split <;> omega]
            exact lv_sub hl [0, 1, 2] rfl
          exact ih4 (k + 1) (by omega) (by omega) ls hl9
  exact key4 (Int.toNat (F 7 - (0 : Int)) + 1) 0 (by omega) (by omega) ls (lv_sub hl [0, 1, 2] rfl)
abbrev rm_X4_vanesNow : Room := { frames := 0, cells := 0, slots := 0, locals := 0 }
set_option maxHeartbeats 4000000 in
set_option maxRecDepth 100000 in
theorem c_X4_vanesNow {l : Launch} {D : va_G} {cI cS : ClassId} {ad : Nat → Nat} {F : Nat → Int} {R : Nat → Nat → Int}    (hM : MI F R): JS l yX4_vanesNow wsX4_vanesNow rm_X4_vanesNow (jB D cI cS (wM cI ad F R)) [.ref (ad 0)] (.int (iI (en (R 6) (Int.toNat (F 3))))) := by
  refine JS.mkI rfl (by decide +kernel) rfl (Nat.le_of_ble_eq_true rfl) ?_
  intro p e st mi ar bl mth cd Q ls C hB hl hret
  obtain ⟨hE, hP⟩ := hB
  have hx := C.1
  have hb := C.2.1
  have hl : lv_has ls 3 [(0, .ref (ad 0))] := hl
  have hin4 : ∀ w ∈ wsX40, w ∈ wsX4_vanesNow := fun _ h => List.mem_cons_of_mem _ (List.mem_append_right _ h)
  have hW := hM.works
  refine jz_const C dX4_vanesNow_0 ?_
  refine lv_istore_n (lv' := [(1, .int (iI (0))), (0, .ref (ad 0))]) hx hb dX4_vanesNow_1 rfl hl (by decide) rfl (fun ls hl => ?_)
  refine jz_const C dX4_vanesNow_2 ?_
  refine lv_istore_n (lv' := [(2, .int (iI (0))), (1, .int (iI (0))), (0, .ref (ad 0))]) hx hb dX4_vanesNow_3 rfl hl (by decide) rfl (fun ls hl => ?_)
  have key4 : ∀ (n4 : Nat) (w : Nat) (hw : (w : Int) ≤ F 3), (F 3 - (w : Int) : Int) < n4 → ∀ (ls : Array Slot), lv_has ls 3 [(2, .int (iI ((w : Int)))), (1, .int (iI (en (R 6) w))), (0, .ref (ad 0))] → W p l e rm_X4_vanesNow st mi ar bl mth cd st.heap [] 0 0 Q (F0 mi 4 ls []) := by
    intro n4
    induction n4 with
    | zero => intro w hw hn9; exfalso; omega
    | succ n4 ih4 =>
      intro w hw hn9 ls hl
      refine lv_iload_n hx hb dX4_vanesNow_4 rfl (lv_at hl 0 rfl) ?_
      refine lv_aload_n hx hb dX4_vanesNow_5 rfl (lv_at hl 2 rfl) ?_
      refine fg_M_works C hin4 hE hP (v := F 3) (List.mem_of_getElem? (i := 1) rfl) dX4_vanesNow_6 rfl ?_
      refine jz_icmp_ge (tgt := 29) C dX4_vanesNow_9 (by decide) (by omega) (fun h9 => ?_) (fun h9 => ?_)
      · skip
        refine lv_iload_n hx hb dX4_vanesNow_29 rfl (lv_at hl 1 rfl) ?_
        exact jz_ret (show (en (R 6) (Int.toNat (F 3)) : Int) = en (R 6) w from by rw [show w = Int.toNat (F 3) by omega]) (hret _ _ dX4_vanesNow_30)
      · skip
        refine jz_const C dX4_vanesNow_12 ?_
        refine lv_iload_n hx hb dX4_vanesNow_13 rfl (lv_at hl 1 rfl) ?_
        refine jz_imul C dX4_vanesNow_14 ?_
        refine lv_aload_n hx hb dX4_vanesNow_15 rfl (lv_at hl 2 rfl) ?_
        refine fg_M_vaneOf C hin4 hE hP (List.mem_of_getElem? (i := 2) rfl) dX4_vanesNow_16 ?_
        refine lv_iload_n hx hb dX4_vanesNow_19 rfl (lv_at hl 0 rfl) ?_
        refine fl_M_vaneOf C hE hP (v := R 6 w) dX4_vanesNow_20 (by omega) rfl ?_
        refine jz_iadd C dX4_vanesNow_21 ?_
        refine lv_istore_n (lv' := [(1, .int (iI ((4 * (en (R 6) w)) + (R 6 w)))), (2, .int (iI ((w : Int)))), (0, .ref (ad 0))]) hx hb dX4_vanesNow_22 rfl hl (by decide) rfl (fun ls hl => ?_)
        refine jz_iinc (k := 1) (z := (w : Int) + 1) (lv' := [(2, .int (iI ((w : Int) + 1))), (1, .int (iI ((4 * (en (R 6) w)) + (R 6 w)))), (0, .ref (ad 0))]) C dX4_vanesNow_23 hl rfl rfl (by decide) rfl (fun ls hl => ?_)
        refine lv_goto (tgt := 4) hx hb dX4_vanesNow_26 (by decide) ?_
        exact ih4 (w + 1) (by omega) (by omega) ls (lv_sub hl [0, 1, 2] rfl)
  exact key4 (Int.toNat (F 3 - (0 : Int)) + 1) 0 (by omega) (by omega) ls (lv_sub hl [0, 1, 2] rfl)
abbrev rm_X4_rows : Room := { frames := 0, cells := 0, slots := 0, locals := 0 }
set_option maxHeartbeats 4000000 in
set_option maxRecDepth 100000 in
theorem c_X4_rows {l : Launch} {D : va_G} {cI cS : ClassId} {ad : Nat → Nat} {F : Nat → Int} {R : Nat → Nat → Int}    (h3 : 0 ≤ F 3 ∧ F 3 ≤ 4): JS l yX4_rows wsX4_rows rm_X4_rows (jB D cI cS (wM cI ad F R)) [.ref (ad 0)] (.int (iI (2 ^ (Int.toNat (2 * (F 3)))))) := by
  refine JS.mkI rfl (by decide +kernel) rfl (Nat.le_of_ble_eq_true rfl) ?_
  intro p e st mi ar bl mth cd Q ls C hB hl hret
  obtain ⟨hE, hP⟩ := hB
  have hx := C.1
  have hb := C.2.1
  have hl : lv_has ls 3 [(0, .ref (ad 0))] := hl
  have hin4 : ∀ w ∈ wsX40, w ∈ wsX4_rows := fun _ h => List.mem_cons_of_mem _ (List.mem_append_right _ h)
  refine jz_const C dX4_rows_0 ?_
  refine lv_istore_n (lv' := [(1, .int (iI (1))), (0, .ref (ad 0))]) hx hb dX4_rows_1 rfl hl (by decide) rfl (fun ls hl => ?_)
  refine jz_const C dX4_rows_2 ?_
  refine lv_istore_n (lv' := [(2, .int (iI (0))), (1, .int (iI (1))), (0, .ref (ad 0))]) hx hb dX4_rows_3 rfl hl (by decide) rfl (fun ls hl => ?_)
  have key4 : ∀ (n4 : Nat) (w : Nat) (hw : (w : Int) ≤ F 3), (F 3 - (w : Int) : Int) < n4 → ∀ (ls : Array Slot), lv_has ls 3 [(2, .int (iI ((w : Int)))), (1, .int (iI (2 ^ (2 * w)))), (0, .ref (ad 0))] → W p l e rm_X4_rows st mi ar bl mth cd st.heap [] 0 0 Q (F0 mi 4 ls []) := by
    intro n4
    induction n4 with
    | zero => intro w hw hn9; exfalso; omega
    | succ n4 ih4 =>
      intro w hw hn9 ls hl
      refine lv_iload_n hx hb dX4_rows_4 rfl (lv_at hl 0 rfl) ?_
      refine lv_aload_n hx hb dX4_rows_5 rfl (lv_at hl 2 rfl) ?_
      refine fg_M_works C hin4 hE hP (v := F 3) (List.mem_of_getElem? (i := 1) rfl) dX4_rows_6 rfl ?_
      refine jz_icmp_ge (tgt := 22) C dX4_rows_9 (by decide) (by omega) (fun h9 => ?_) (fun h9 => ?_)
      · skip
        refine lv_iload_n hx hb dX4_rows_22 rfl (lv_at hl 1 rfl) ?_
        exact jz_ret (show (2 ^ (Int.toNat (2 * (F 3))) : Int) = 2 ^ (2 * w) from by rw [show Int.toNat (2 * F 3) = 2 * w by omega]) (hret _ _ dX4_rows_23)
      · skip
        have hp4 := p4_bd (w := w) (by omega)
        refine lv_iload_n hx hb dX4_rows_12 rfl (lv_at hl 1 rfl) ?_
        refine jz_const C dX4_rows_13 ?_
        refine jz_imul C dX4_rows_14 ?_
        refine lv_istore_n (lv' := [(1, .int (iI ((2 ^ (2 * w)) * 4))), (2, .int (iI ((w : Int)))), (0, .ref (ad 0))]) hx hb dX4_rows_15 rfl hl (by decide) rfl (fun ls hl => ?_)
        refine jz_iinc (k := 1) (z := (w : Int) + 1) (lv' := [(2, .int (iI ((w : Int) + 1))), (1, .int (iI ((2 ^ (2 * w)) * 4))), (0, .ref (ad 0))]) C dX4_rows_16 hl rfl rfl (by decide) rfl (fun ls hl => ?_)
        refine lv_goto (tgt := 4) hx hb dX4_rows_19 (by decide) ?_
        have hl9 : lv_has ls 3 [(2, .int (iI ((w + 1 : Int)))), (1, .int (iI (2 ^ (2 * (w + 1))))), (0, .ref (ad 0))] := by
          rw [show (2 ^ (2 * (w + 1)) : Int) = (2 ^ (2 * w)) * 4 from by exact p4.symm]
          exact lv_sub hl [0, 1, 2] rfl
        exact ih4 (w + 1) (by omega) (by omega) ls hl9
  have hl9 : lv_has ls 3 [(2, .int (iI ((0 : Int)))), (1, .int (iI (2 ^ (2 * 0)))), (0, .ref (ad 0))] := by
    rw [show (2 ^ (2 * 0) : Int) = 1 from by rfl]
    exact lv_sub hl [0, 1, 2] rfl
  exact key4 (Int.toNat (F 3 - (0 : Int)) + 1) 0 (by omega) (by omega) ls hl9
abbrev rm_X4_vaneIn : Room := { frames := 0, cells := 0, slots := 0, locals := 0 }
set_option maxHeartbeats 4000000 in
set_option maxRecDepth 100000 in
theorem c_X4_vaneIn {l : Launch} {D : va_G} {cI cS : ClassId} {ad : Nat → Nat} {F : Nat → Int} {R : Nat → Nat → Int}  (row : Int) (w : Int)  (h3 : 0 ≤ F 3 ∧ F 3 ≤ 4) (hs : 0 ≤ row ∧ row < 256) (hw : 0 ≤ w ∧ w < (F 3)): JS l yX4_vaneIn wsX4_vaneIn rm_X4_vaneIn (jB D cI cS (wM cI ad F R)) [.ref (ad 0), .int (iI (row)), .int (iI (w))] (.int (iI (vz (F 3) row w))) := by
  refine JS.mkI rfl (by decide +kernel) rfl (Nat.le_of_ble_eq_true rfl) ?_
  intro p e st mi ar bl mth cd Q ls C hB hl hret
  obtain ⟨hE, hP⟩ := hB
  have hx := C.1
  have hb := C.2.1
  have hl : lv_has ls 5 [(0, .ref (ad 0)), (1, .int (iI (row))), (2, .int (iI (w)))] := hl
  have hin4 : ∀ w ∈ wsX40, w ∈ wsX4_vaneIn := fun _ h => List.mem_cons_of_mem _ (List.mem_append_right _ h)
  refine lv_iload_n hx hb dX4_vaneIn_0 rfl (lv_at hl 1 rfl) ?_
  refine lv_istore_n (lv' := [(3, .int (iI (row))), (0, .ref (ad 0)), (1, .int (iI (row))), (2, .int (iI (w)))]) hx hb dX4_vaneIn_1 rfl hl (by decide) rfl (fun ls hl => ?_)
  refine lv_aload_n hx hb dX4_vaneIn_2 rfl (lv_at hl 1 rfl) ?_
  refine fg_M_works C hin4 hE hP (v := F 3) (List.mem_of_getElem? (i := 1) rfl) dX4_vaneIn_3 rfl ?_
  refine jz_const C dX4_vaneIn_6 ?_
  refine jz_isub C dX4_vaneIn_7 ?_
  refine lv_istore (lv' := [(4, .int (iI ((F 3) - 1))), (3, .int (iI (row))), (0, .ref (ad 0)), (1, .int (iI (row))), (2, .int (iI (w)))]) hx hb dX4_vaneIn_8 hl (by decide) rfl (fun ls hl => ?_)
  have key10 : ∀ (n10 : Nat) (x : Nat) (hx3 : w ≤ (x : Int) ∧ (x : Int) < F 3), (((x : Nat) : Int) : Int) < n10 → ∀ (ls : Array Slot), lv_has ls 5 [(4, .int (iI (((x : Nat) : Int)))), (3, .int (iI (row / 2 ^ (Int.toNat (2 * (F 3 - 1 - ((x : Nat) : Int))))))), (0, .ref (ad 0)), (1, .int (iI (row))), (2, .int (iI (w)))] → W p l e rm_X4_vaneIn st mi ar bl mth cd st.heap [] 0 0 Q (F0 mi 10 ls []) := by
    intro n10
    induction n10 with
    | zero => intro x hx3 hn9; exfalso; omega
    | succ n10 ih10 =>
      intro x hx3 hn9 ls hl
      refine lv_iload hx hb dX4_vaneIn_10 (lv_at hl 0 rfl) ?_
      refine lv_iload_n hx hb dX4_vaneIn_12 rfl (lv_at hl 4 rfl) ?_
      have hq1 := Int.ediv_nonneg (a := row) (b := 2 ^ (Int.toNat (2 * (F 3 - 1 - ((x : Nat) : Int))))) hs.1 (Int.le_of_lt (Int.pow_pos (by decide)))
      have hq2 := Int.ediv_le_self (a := row) (2 ^ (Int.toNat (2 * (F 3 - 1 - ((x : Nat) : Int))))) hs.1
      refine jz_icmp_le (tgt := 26) C dX4_vaneIn_13 (by decide) (by omega) (fun h13 => ?_) (fun h13 => ?_)
      · skip
        refine lv_iload_n hx hb dX4_vaneIn_26 rfl (lv_at hl 1 rfl) ?_
        refine jz_const C dX4_vaneIn_27 ?_
        refine jz_irem C dX4_vaneIn_28 (by omega) ?_
        exact jz_ret (show (vz (F 3) row w : Int) = (row / 2 ^ (Int.toNat (2 * (F 3 - 1 - ((x : Nat) : Int))))) % 4 from by unfold vz; rw [show ((x : Nat) : Int) = w by omega]; rfl) (hret _ _ dX4_vaneIn_29)
      · skip
        refine lv_iload_n hx hb dX4_vaneIn_16 rfl (lv_at hl 1 rfl) ?_
        refine jz_const C dX4_vaneIn_17 ?_
        refine jz_idiv C dX4_vaneIn_18 (by omega) ?_
        refine lv_istore_n (lv' := [(3, .int (iI ((row / 2 ^ (Int.toNat (2 * (F 3 - 1 - ((x : Nat) : Int))))) / 4))), (4, .int (iI (((x : Nat) : Int)))), (0, .ref (ad 0)), (1, .int (iI (row))), (2, .int (iI (w)))]) hx hb dX4_vaneIn_19 rfl hl (by decide) rfl (fun ls hl => ?_)
        refine jz_iinc (k := 1) (z := ((x : Nat) : Int) + (-1)) (lv' := [(4, .int (iI (((x : Nat) : Int) + (-1)))), (3, .int (iI ((row / 2 ^ (Int.toNat (2 * (F 3 - 1 - ((x : Nat) : Int))))) / 4))), (0, .ref (ad 0)), (1, .int (iI (row))), (2, .int (iI (w)))]) C dX4_vaneIn_20 hl rfl rfl (by decide) rfl (fun ls hl => ?_)
        refine lv_goto (tgt := 10) hx hb dX4_vaneIn_23 (by decide) ?_
        have hl9 : lv_has ls 5 [(4, .int (iI (((x - 1 : Nat) : Int)))), (3, .int (iI (row / 2 ^ (Int.toNat (2 * (F 3 - 1 - ((x - 1 : Nat) : Int))))))), (0, .ref (ad 0)), (1, .int (iI (row))), (2, .int (iI (w)))] := by
          rw [show (row / 2 ^ (Int.toNat (2 * (F 3 - 1 - ((x - 1 : Nat) : Int)))) : Int) = (row / 2 ^ (Int.toNat (2 * (F 3 - 1 - ((x : Nat) : Int))))) / 4 from by exact (dv4 (by omega)).symm]
          rw [show (((x - 1 : Nat) : Int) : Int) = ((x : Nat) : Int) + (-1) from by omega]
          exact lv_sub hl [0, 1, 2, 3, 4] rfl
        exact ih10 (x - 1) (by omega) (by omega) ls hl9
  have hl9 : lv_has ls 5 [(4, .int (iI (((Int.toNat (F 3 - 1) : Nat) : Int)))), (3, .int (iI (row / 2 ^ (Int.toNat (2 * (F 3 - 1 - ((Int.toNat (F 3 - 1) : Nat) : Int))))))), (0, .ref (ad 0)), (1, .int (iI (row))), (2, .int (iI (w)))] := by
    rw [show (row / 2 ^ (Int.toNat (2 * (F 3 - 1 - ((Int.toNat (F 3 - 1) : Nat) : Int)))) : Int) = row from by rw [show Int.toNat (2 * (F 3 - 1 - ((Int.toNat (F 3 - 1) : Nat) : Int))) = 0 by omega]; omega]
    rw [show (((Int.toNat (F 3 - 1) : Nat) : Int) : Int) = (F 3) - 1 from by omega]
    exact lv_sub hl [0, 1, 2, 3, 4] rfl
  exact key10 (Int.toNat (((Int.toNat (F 3 - 1) : Nat) : Int)) + 1) (Int.toNat (F 3 - 1)) (by omega) (by omega) ls hl9
abbrev rm_X4_turnAll : Room := { frames := 0, cells := 0, slots := 0, locals := 0 }
set_option maxHeartbeats 4000000 in
set_option maxRecDepth 100000 in
theorem c_X4_turnAll {l : Launch} {D : va_G} {cI cS : ClassId} {ad : Nat → Nat} {F : Nat → Int} {R : Nat → Nat → Int} {A : Nat → Prop} (hD : va_D A (wM cI ad F R))  (row : Int)  (h3 : 0 ≤ F 3 ∧ F 3 ≤ 4) (hs : 0 ≤ row ∧ row < 256): JV l yX4_turnAll wsX4_turnAll rm_X4_turnAll (jB D cI cS (wM cI ad F R)) A [.ref (ad 0), .int (iI (row))] (fun v9 (_ : Unit) => v9 = none) (fun _ H => va_P D vwCl (wM cI ad F (uR R 6 (tA (F 3) row (R 6)))) H) := by
  refine JV.mkN rfl (by decide +kernel) rfl (Nat.le_of_ble_eq_true rfl) ?_
  intro p e st mi ar bl mth cd Q ls C hB hl hret
  obtain ⟨hE, hP⟩ := hB
  have hx := C.1
  have hb := C.2.1
  have hl : lv_has ls 4 [(0, .ref (ad 0)), (1, .int (iI (row)))] := hl
  have hin4 : ∀ w ∈ wsX40, w ∈ wsX4_turnAll := fun _ h => List.mem_cons_of_mem _ (List.mem_append_right _ h)
  suffices hgo : ∀ (H : Heap) (lc : List Loc), va_P D vwCl (wM cI ad F R) H → va_S A st.heap H lc → W p l e rm_X4_turnAll st mi ar bl mth cd H lc 0 0 Q (F0 mi 0 ls []) from hgo _ _ hP va_S.rf
  clear hP
  intro H lc hP hS
  refine lv_iload_n hx hb dX4_turnAll_0 rfl (lv_at hl 1 rfl) ?_
  refine lv_istore_n (lv' := [(2, .int (iI (row))), (0, .ref (ad 0)), (1, .int (iI (row)))]) hx hb dX4_turnAll_1 rfl hl (by decide) rfl (fun ls hl => ?_)
  refine lv_aload_n hx hb dX4_turnAll_2 rfl (lv_at hl 1 rfl) ?_
  refine fg_M_works C hin4 hE hP (v := F 3) (List.mem_of_getElem? (i := 1) rfl) dX4_turnAll_3 rfl ?_
  refine jz_const C dX4_turnAll_6 ?_
  refine jz_isub C dX4_turnAll_7 ?_
  refine lv_istore_n (lv' := [(3, .int (iI ((F 3) - 1))), (2, .int (iI (row))), (0, .ref (ad 0)), (1, .int (iI (row)))]) hx hb dX4_turnAll_8 rfl hl (by decide) rfl (fun ls hl => ?_)
  have key9 : ∀ (n9 : Nat) (j : Nat) (hj : ((j : Nat) : Int) ≤ F 3), (((j : Nat) : Int) : Int) < n9 → ∀ (H : Heap) (lc : List Loc), va_P D vwCl (wM cI ad F (uR R 6 (trn (F 3) row (R 6) j))) H → va_S A st.heap H lc → ∀ (ls : Array Slot), lv_has ls 4 [(3, .int (iI (((j : Nat) : Int) - 1))), (2, .int (iI (row / 2 ^ (Int.toNat (2 * (F 3 - ((j : Nat) : Int))))))), (0, .ref (ad 0)), (1, .int (iI (row)))] → W p l e rm_X4_turnAll st mi ar bl mth cd H lc 0 0 Q (F0 mi 9 ls []) := by
    intro n9
    induction n9 with
    | zero => intro j hj hn9; exfalso; omega
    | succ n9 ih9 =>
      intro j hj hn9 H lc hP hS ls hl
      refine lv_iload_n hx hb dX4_turnAll_9 rfl (lv_at hl 0 rfl) ?_
      refine jz_if_lt (tgt := 32) C dX4_turnAll_10 (by decide) (by omega) (fun h10 => ?_) (fun h10 => ?_)
      · skip
        exact hret () _ _ _ _ dX4_turnAll_32 rfl (by rw [show j = 0 by omega, trn_0] at hP; exact hP) hS
      · skip
        have hq1 := Int.ediv_nonneg (a := row) (b := 2 ^ (Int.toNat (2 * (F 3 - ((j : Nat) : Int))))) hs.1 (Int.le_of_lt (Int.pow_pos (by decide)))
        have hq2 := Int.ediv_le_self (a := row) (2 ^ (Int.toNat (2 * (F 3 - ((j : Nat) : Int))))) hs.1
        have hjn : Int.toNat ((j : Int) - 1) = j - 1 := by omega
        refine lv_aload_n hx hb dX4_turnAll_13 rfl (lv_at hl 2 rfl) ?_
        refine fg_M_vaneOf C hin4 hE hP (List.mem_of_getElem? (i := 2) rfl) dX4_turnAll_14 ?_
        refine lv_iload_n hx hb dX4_turnAll_17 rfl (lv_at hl 0 rfl) ?_
        refine lv_iload_n hx hb dX4_turnAll_18 rfl (lv_at hl 1 rfl) ?_
        refine jz_const C dX4_turnAll_19 ?_
        refine jz_irem C dX4_turnAll_20 (by omega) ?_
        refine fs_M_vaneOf C hE hP (jDM hD) hS dX4_turnAll_21 (by omega) (fun H lc hP hS => ?_)
        have hP : va_P D vwCl (wM cI ad F (uR (uR R 6 (trn (F 3) row (R 6) j)) 6 (u1 (trn (F 3) row (R 6) j) (j - 1) (row / 2 ^ (Int.toNat (2 * (F 3 - ((j : Nat) : Int)))) % 4)))) H := by rw [hjn] at hP; exact hP
        refine lv_iload_n hx hb dX4_turnAll_22 rfl (lv_at hl 1 rfl) ?_
        refine jz_const C dX4_turnAll_23 ?_
        refine jz_idiv C dX4_turnAll_24 (by omega) ?_
        refine lv_istore_n (lv' := [(2, .int (iI ((row / 2 ^ (Int.toNat (2 * (F 3 - ((j : Nat) : Int))))) / 4))), (3, .int (iI (((j : Nat) : Int) - 1))), (0, .ref (ad 0)), (1, .int (iI (row)))]) hx hb dX4_turnAll_25 rfl hl (by decide) rfl (fun ls hl => ?_)
        refine jz_iinc (k := 1) (z := ((j : Nat) : Int) - 1 + (-1)) (lv' := [(3, .int (iI (((j : Nat) : Int) - 1 + (-1)))), (2, .int (iI ((row / 2 ^ (Int.toNat (2 * (F 3 - ((j : Nat) : Int))))) / 4))), (0, .ref (ad 0)), (1, .int (iI (row)))]) C dX4_turnAll_26 hl rfl rfl (by decide) rfl (fun ls hl => ?_)
        refine lv_goto (tgt := 9) hx hb dX4_turnAll_29 (by decide) ?_
        have hl9 : lv_has ls 4 [(3, .int (iI (((j - 1 : Nat) : Int) - 1))), (2, .int (iI (row / 2 ^ (Int.toNat (2 * (F 3 - ((j - 1 : Nat) : Int))))))), (0, .ref (ad 0)), (1, .int (iI (row)))] := by
          rw [show (row / 2 ^ (Int.toNat (2 * (F 3 - ((j - 1 : Nat) : Int)))) : Int) = (row / 2 ^ (Int.toNat (2 * (F 3 - ((j : Nat) : Int))))) / 4 from by exact (dv4 (by omega)).symm]
          rw [show (((j - 1 : Nat) : Int) - 1 : Int) = ((j : Nat) : Int) - 1 + (-1) from by omega]
          exact lv_sub hl [0, 1, 2, 3] rfl
        exact ih9 (j - 1) (by omega) (by omega) _ _ (by rw [uR_u, trn_s (j := j) (k := j - 1) (by omega) hj (by unfold vz; rw [show Int.toNat (2 * (F 3 - 1 - ((j - 1 : Nat) : Int))) = Int.toNat (2 * (F 3 - (j : Int))) by omega]; rfl)] at hP; exact hP) hS ls hl9
  have hl9 : lv_has ls 4 [(3, .int (iI (((Int.toNat (F 3) : Nat) : Int) - 1))), (2, .int (iI (row / 2 ^ (Int.toNat (2 * (F 3 - ((Int.toNat (F 3) : Nat) : Int))))))), (0, .ref (ad 0)), (1, .int (iI (row)))] := by
    rw [show (row / 2 ^ (Int.toNat (2 * (F 3 - ((Int.toNat (F 3) : Nat) : Int)))) : Int) = row from by rw [show Int.toNat (2 * (F 3 - ((Int.toNat (F 3) : Nat) : Int))) = 0 by omega]; omega]
    rw [show (((Int.toNat (F 3) : Nat) : Int) - 1 : Int) = (F 3) - 1 from by omega]
    exact lv_sub hl [0, 1, 2, 3] rfl
  exact key9 (Int.toNat (((Int.toNat (F 3) : Nat) : Int)) + 1) (Int.toNat (F 3)) (by omega) (by omega) _ _ (by rw [trn_n (by omega), uR_id]; exact hP) hS ls hl9
abbrev rm_X4_areSo : Room := { frames := 2, cells := 0, slots := 0, locals := 52 }
set_option maxHeartbeats 4000000 in
set_option maxRecDepth 100000 in
theorem c_X4_areSo {l : Launch} {D : va_G} {cI cS : ClassId} {ad : Nat → Nat} {F : Nat → Int} {R : Nat → Nat → Int}    (hM : MI F R): JS l yX4_areSo wsX4_areSo rm_X4_areSo (jB D cI cS (wM cI ad F R)) [.ref (ad 0)] (.int (iI (if aM F R (Int.toNat (F 24)) = true then 1 else 0))) := by
  refine JS.mkZ rfl (by decide +kernel) rfl (Nat.le_of_ble_eq_true rfl) (jz_nz _) ?_
  intro p e st mi ar bl mth cd Q ls C hB hl hret
  obtain ⟨hE, hP⟩ := hB
  have hx := C.1
  have hb := C.2.1
  have hl : lv_has ls 3 [(0, .ref (ad 0))] := hl
  have hin4 : ∀ w ∈ wsX40, w ∈ wsX4_areSo := fun _ h => List.mem_cons_of_mem _ (List.mem_append_right _ h)
  have hrd := hM.reads
  refine jz_const C dX4_areSo_0 ?_
  refine lv_istore_n (lv' := [(1, .int (iI (1))), (0, .ref (ad 0))]) hx hb dX4_areSo_1 rfl hl (by decide) rfl (fun ls hl => ?_)
  refine jz_const C dX4_areSo_2 ?_
  refine lv_istore_n (lv' := [(2, .int (iI (0))), (1, .int (iI (1))), (0, .ref (ad 0))]) hx hb dX4_areSo_3 rfl hl (by decide) rfl (fun ls hl => ?_)
  have key4 : ∀ (n4 : Nat) (x : Nat) (hx8 : (x : Int) ≤ F 24), (F 24 - (x : Int) : Int) < n4 → ∀ (ls : Array Slot), lv_has ls 3 [(2, .int (iI ((x : Int)))), (1, .int (iI (if aM F R x = true then 1 else 0))), (0, .ref (ad 0))] → W p l e rm_X4_areSo st mi ar bl mth cd st.heap [] 0 0 Q (F0 mi 4 ls []) := by
    intro n4
    induction n4 with
    | zero => intro x hx8 hn9; exfalso; omega
    | succ n4 ih4 =>
      intro x hx8 hn9 ls hl
      refine lv_iload_n hx hb dX4_areSo_4 rfl (lv_at hl 0 rfl) ?_
      refine lv_aload_n hx hb dX4_areSo_5 rfl (lv_at hl 2 rfl) ?_
      refine fg_M_readings C hin4 hE hP (v := F 24) (List.mem_of_getElem? (i := 1) rfl) dX4_areSo_6 rfl ?_
      refine jz_icmp_ge (tgt := 47) C dX4_areSo_9 (by decide) (by omega) (fun h9 => ?_) (fun h9 => ?_)
      · skip
        refine lv_iload_n hx hb dX4_areSo_47 rfl (lv_at hl 1 rfl) ?_
        exact jz_ret (show ((if aM F R (Int.toNat (F 24)) = true then 1 else 0) : Int) = (if aM F R x = true then 1 else 0) from by rw [show x = Int.toNat (F 24) by omega]) (hret _ _ dX4_areSo_48)
      · skip
        have hrc := hM.rcell x (by omega)
        have hrs := hM.rsm x (by omega)
        have hms := ms_bd hM (c := R 25 x)
        refine jz_cut (X := ∀ ls : Array Slot, lv_has ls 3 [(2, .int (iI ((x : Int)))), (1, .int (iI (if aM F R x = true then 1 else 0))), (0, .ref (ad 0))] → W p l e rm_X4_areSo st mi ar bl mth cd st.heap [] 0 0 Q (F0 mi 40 ls [.int (iI (if aM F R (x + 1) = true then 1 else 0))])) (fun ls hl => ?_) (fun hj12 => ?_)
        · skip
          refine lv_istore_n (lv' := [(1, .int (iI (if aM F R (x + 1) = true then 1 else 0))), (2, .int (iI ((x : Int)))), (0, .ref (ad 0))]) hx hb dX4_areSo_40 rfl hl (by decide) rfl (fun ls hl => ?_)
          refine jz_iinc (k := 1) (z := (x : Int) + 1) (lv' := [(2, .int (iI ((x : Int) + 1))), (1, .int (iI (if aM F R (x + 1) = true then 1 else 0))), (0, .ref (ad 0))]) C dX4_areSo_41 hl rfl rfl (by decide) rfl (fun ls hl => ?_)
          refine lv_goto (tgt := 4) hx hb dX4_areSo_44 (by decide) ?_
          exact ih4 (x + 1) (by omega) (by omega) ls (lv_sub hl [0, 1, 2] rfl)
        · skip
          have hrc := hM.rcell x (by omega)
          have hrs := hM.rsm x (by omega)
          have hms := ms_bd hM (c := R 25 x)
          refine lv_iload_n hx hb dX4_areSo_12 rfl (lv_at hl 1 rfl) ?_
          refine jz_bool_eq (tgt := 39) C dX4_areSo_13 (by decide) (fun h13 => ?_) (fun h13 => ?_)
          · skip
            refine jz_const C dX4_areSo_39 ?_
            have hl9 : lv_has ls 3 [(2, .int (iI ((x : Int)))), (1, .int (iI (if aM F R x = true then 1 else 0))), (0, .ref (ad 0))] := lv_sub hl [0, 1, 2] rfl
            have hj9 := hj12 ls hl9
            rw [show ((if aM F R (x + 1) = true then 1 else 0) : Int) = 0 from by simp [aM, *]] at hj9
            exact hj9
          · skip
            refine lv_aload_n hx hb dX4_areSo_16 rfl (lv_at hl 2 rfl) ?_
            refine lv_aload_n hx hb dX4_areSo_17 rfl (lv_at hl 2 rfl) ?_
            refine fg_M_readingOf C hin4 hE hP (List.mem_of_getElem? (i := 2) rfl) dX4_areSo_18 ?_
            refine lv_iload_n hx hb dX4_areSo_21 rfl (lv_at hl 0 rfl) ?_
            refine fl_M_readingOf C hE hP (v := R 25 x) dX4_areSo_22 (by omega) rfl ?_
            refine jc_V C hl.1 (jpreV hE hP 4 0 rfl rfl) (c_X4_smellOf (R 25 x) (by first | exact hM | assumption) (show 0 ≤ (R 25 x) ∧ (R 25 x) < 24 from (by omega))) (cwV 1 C.2.2.2.2 gX4_areSo_X4_smellOf rfl rfl rfl (by decide +kernel) ⟨Nat.le_of_ble_eq_true rfl, Nat.le_of_ble_eq_true rfl⟩) (As := [.int (iI (R 25 x))]) (v := .int (iI (ms F R (R 25 x)))) (hn := rfl) (hst := rfl) (rest := []) (hW := Nat.le_of_ble_eq_true rfl) (hdg := dX4_areSo_23) (hf := ⟨Nat.le_of_ble_eq_true rfl, Nat.le_of_ble_eq_true rfl⟩) ?_
            refine lv_aload_n hx hb dX4_areSo_26 rfl (lv_at hl 2 rfl) ?_
            refine fg_M_readingSmell C hin4 hE hP (List.mem_of_getElem? (i := 3) rfl) dX4_areSo_27 ?_
            refine lv_iload_n hx hb dX4_areSo_30 rfl (lv_at hl 0 rfl) ?_
            refine fl_M_readingSmell C hE hP (v := R 26 x) dX4_areSo_31 (by omega) rfl ?_
            refine jz_icmp_ne (tgt := 39) C dX4_areSo_32 (by decide) (by omega) (fun h32 => ?_) (fun h32 => ?_)
            · skip
              refine jz_const C dX4_areSo_39 ?_
              have hl9 : lv_has ls 3 [(2, .int (iI ((x : Int)))), (1, .int (iI (if aM F R x = true then 1 else 0))), (0, .ref (ad 0))] := lv_sub hl [0, 1, 2] rfl
              have hj9 := hj12 ls hl9
              rw [show ((if aM F R (x + 1) = true then 1 else 0) : Int) = 0 from by simp [aM, *]] at hj9
              exact hj9
            · skip
              refine jz_const C dX4_areSo_35 ?_
              refine lv_goto (tgt := 40) hx hb dX4_areSo_36 (by decide) ?_
              have hl9 : lv_has ls 3 [(2, .int (iI ((x : Int)))), (1, .int (iI (if aM F R x = true then 1 else 0))), (0, .ref (ad 0))] := lv_sub hl [0, 1, 2] rfl
              have hj9 := hj12 ls hl9
              rw [show ((if aM F R (x + 1) = true then 1 else 0) : Int) = 1 from by simp [aM, *]] at hj9
              exact hj9
  have hl9 : lv_has ls 3 [(2, .int (iI ((0 : Int)))), (1, .int (iI (if aM F R 0 = true then 1 else 0))), (0, .ref (ad 0))] := by
    rw [show ((if aM F R 0 = true then 1 else 0) : Int) = 1 from by rfl]
    exact lv_sub hl [0, 1, 2] rfl
  exact key4 (Int.toNat (F 24 - (0 : Int)) + 1) 0 (by omega) (by omega) ls hl9
abbrev rm_X4_voteOf : Room := { frames := 3, cells := 0, slots := 0, locals := 73 }
set_option maxHeartbeats 4000000 in
set_option maxRecDepth 100000 in
theorem c_X4_voteOf {l : Launch} {D : va_G} {cI cS : ClassId} {ad : Nat → Nat} {F : Nat → Int} {R : Nat → Nat → Int} {A : Nat → Prop} (hD : va_D A (wM cI ad F R))  (k : Int) (w : Int)  (hM : MI F R) (hk : 0 ≤ k ∧ k < 6) (hw : 0 ≤ w ∧ w < (F 3)): JV l yX4_voteOf wsX4_voteOf rm_X4_voteOf (jB D cI cS (wM cI ad F R)) A [.ref (ad 0), .int (iI (k)), .int (iI (w))] (fun v9 (_ : Unit) => v9 = some (.int (iI (vm F R (Int.toNat k) w)))) (fun _ H => va_P D vwCl (wM cI ad F R) H) := by
  refine JV.mkI rfl (by decide +kernel) rfl (Nat.le_of_ble_eq_true rfl) ?_
  intro p e st mi ar bl mth cd Q ls C hB hl hret
  obtain ⟨hE, hP⟩ := hB
  have hx := C.1
  have hb := C.2.1
  have hl : lv_has ls 8 [(0, .ref (ad 0)), (1, .int (iI (k))), (2, .int (iI (w)))] := hl
  have hin4 : ∀ w ∈ wsX40, w ∈ wsX4_voteOf := fun _ h => List.mem_cons_of_mem _ (List.mem_append_right _ h)
  suffices hgo : ∀ (H : Heap) (lc : List Loc), va_P D vwCl (wM cI ad F R) H → va_S A st.heap H lc → W p l e rm_X4_voteOf st mi ar bl mth cd H lc 0 0 Q (F0 mi 0 ls []) from hgo _ _ hP va_S.rf
  clear hP
  intro H lc hP hS
  have hW := hM.works
  have hgb : ∀ x : Nat, x < 4 → 0 ≤ (fun v : Nat => mm F (uR R 6 (u1 (R 6) (Int.toNat w) (v : Int))) (Int.toNat k)) x ∧ (fun v : Nat => mm F (uR R 6 (u1 (R 6) (Int.toNat w) (v : Int))) (Int.toNat k)) x < 1000000 := fun x hx => by
    have h2 := mm_bd (hM.turn (hM.u1 (w := Int.toNat w) (v := (x : Int)) (by omega))) (k := Int.toNat k) (by omega)
    exact ⟨h2.1, by first | omega | (simp only; omega)⟩
  refine lv_aload_n hx hb dX4_voteOf_0 rfl (lv_at hl 0 rfl) ?_
  refine fg_M_vaneOf C hin4 hE hP (List.mem_of_getElem? (i := 1) rfl) dX4_voteOf_1 ?_
  refine lv_iload_n hx hb dX4_voteOf_4 rfl (lv_at hl 2 rfl) ?_
  refine fl_M_vaneOf C hE hP (v := R 6 (Int.toNat w)) dX4_voteOf_5 (by omega) rfl ?_
  refine lv_istore_n (lv' := [(3, .int (iI (R 6 (Int.toNat w)))), (0, .ref (ad 0)), (1, .int (iI (k))), (2, .int (iI (w)))]) hx hb dX4_voteOf_6 rfl hl (by decide) rfl (fun ls hl => ?_)
  refine jz_const C dX4_voteOf_7 ?_
  refine lv_istore (lv' := [(4, .int (iI (0))), (3, .int (iI (R 6 (Int.toNat w)))), (0, .ref (ad 0)), (1, .int (iI (k))), (2, .int (iI (w)))]) hx hb dX4_voteOf_8 hl (by decide) rfl (fun ls hl => ?_)
  refine jz_const C dX4_voteOf_10 ?_
  refine lv_istore (lv' := [(5, .int (iI (-1))), (4, .int (iI (0))), (3, .int (iI (R 6 (Int.toNat w)))), (0, .ref (ad 0)), (1, .int (iI (k))), (2, .int (iI (w)))]) hx hb dX4_voteOf_11 hl (by decide) rfl (fun ls hl => ?_)
  refine jz_const C dX4_voteOf_13 ?_
  refine lv_istore (lv' := [(6, .int (iI (0))), (5, .int (iI (-1))), (4, .int (iI (0))), (3, .int (iI (R 6 (Int.toNat w)))), (0, .ref (ad 0)), (1, .int (iI (k))), (2, .int (iI (w)))]) hx hb dX4_voteOf_14 hl (by decide) rfl (fun ls hl => ?_)
  have key16 : ∀ (n16 : Nat) (v : Nat) (y : Int) (hv4 : v ≤ 4), (4 - (v : Int) : Int) < n16 → ∀ (H : Heap) (lc : List Loc), va_P D vwCl (wM cI ad F (uR R 6 (u1 (R 6) (Int.toNat w) y))) H → va_S A st.heap H lc → ∀ (ls : Array Slot), lv_has ls 8 [(6, .int (iI ((v : Int)))), (5, .int (iI (lf (fun v : Nat => mm F (uR R 6 (u1 (R 6) (Int.toNat w) (v : Int))) (Int.toNat k)) v))), (4, .int (iI ((am (fun v : Nat => mm F (uR R 6 (u1 (R 6) (Int.toNat w) (v : Int))) (Int.toNat k)) v).1))), (3, .int (iI (R 6 (Int.toNat w)))), (0, .ref (ad 0)), (1, .int (iI (k))), (2, .int (iI (w)))] → W p l e rm_X4_voteOf st mi ar bl mth cd H lc 0 0 Q (F0 mi 16 ls []) := by
    intro n16
    induction n16 with
    | zero => intro v y hv4 hn9; exfalso; omega
    | succ n16 ih16 =>
      intro v y hv4 hn9 H lc hP hS ls hl
      refine lv_iload hx hb dX4_voteOf_16 (lv_at hl 0 rfl) ?_
      refine jz_const C dX4_voteOf_18 ?_
      refine jz_icmp_ge (tgt := 80) C dX4_voteOf_19 (by decide) (by omega) (fun h19 => ?_) (fun h19 => ?_)
      · skip
        refine lv_aload_n hx hb dX4_voteOf_80 rfl (lv_at hl 4 rfl) ?_
        refine fg_M_vaneOf C hin4 hE hP (List.mem_of_getElem? (i := 1) rfl) dX4_voteOf_81 ?_
        refine lv_iload_n hx hb dX4_voteOf_84 rfl (lv_at hl 6 rfl) ?_
        refine lv_iload_n hx hb dX4_voteOf_85 rfl (lv_at hl 3 rfl) ?_
        refine fs_M_vaneOf C hE hP (jDM hD) hS dX4_voteOf_86 (by omega) (fun H lc hP hS => ?_)
        have hP : va_P D vwCl (wM cI ad F R) H := by rw [uR_u, uR_q, u1_u, u1_id, uR_id] at hP; exact hP
        refine lv_iload hx hb dX4_voteOf_87 (lv_at hl 2 rfl) ?_
        exact hret _ () _ _ _ _ dX4_voteOf_89 (by rw [show v = 4 by omega]; rfl) hP hS
      · skip
        refine lv_aload_n hx hb dX4_voteOf_22 rfl (lv_at hl 4 rfl) ?_
        refine fg_M_vaneOf C hin4 hE hP (List.mem_of_getElem? (i := 1) rfl) dX4_voteOf_23 ?_
        refine lv_iload_n hx hb dX4_voteOf_26 rfl (lv_at hl 6 rfl) ?_
        refine lv_iload hx hb dX4_voteOf_27 (lv_at hl 0 rfl) ?_
        refine fs_M_vaneOf C hE hP (jDM hD) hS dX4_voteOf_29 (by omega) (fun H lc hP hS => ?_)
        have hP : va_P D vwCl (wM cI ad F (uR R 6 (u1 (R 6) (Int.toNat w) (v : Int)))) H := by rw [uR_u, uR_q, u1_u] at hP; exact hP
        have hbv : ∀ x : Nat, x ≤ v → 0 ≤ (fun v : Nat => mm F (uR R 6 (u1 (R 6) (Int.toNat w) (v : Int))) (Int.toNat k)) x ∧ (fun v : Nat => mm F (uR R 6 (u1 (R 6) (Int.toNat w) (v : Int))) (Int.toNat k)) x < 1000000 := fun x hx => hgb x (by omega)
        have hgv := hgb v (by omega)
        have hlf := lf_bd (g := (fun v : Nat => mm F (uR R 6 (u1 (R 6) (Int.toNat w) (v : Int))) (Int.toNat k))) (n := v) (fun x hx => hgb x (by omega))
        have ham := am_bd (g := (fun v : Nat => mm F (uR R 6 (u1 (R 6) (Int.toNat w) (v : Int))) (Int.toNat k))) (n := v) (fun x hx => hgb x (by omega))
        have ham2 : (am (fun v : Nat => mm F (uR R 6 (u1 (R 6) (Int.toNat w) (v : Int))) (Int.toNat k)) v).1 < 5 := by have h5 := ham.2.1; split at h5 <;> omega
        have hvk := hM.turn (hM.u1 (w := Int.toNat w) (v := (v : Int)) (by omega))
        have hmb := mm_bd hvk (k := Int.toNat k) (by omega)
        refine lv_aload_n hx hb dX4_voteOf_30 rfl (lv_at hl 4 rfl) ?_
        refine lv_iload_n hx hb dX4_voteOf_31 rfl (lv_at hl 5 rfl) ?_
        refine jc_V C hl.1 (jpreV hE hP 4 0 rfl rfl) (c_X4_mindsNow k hvk (show 0 ≤ k ∧ k < 6 from (by omega))) (cwV 1 C.2.2.2.2 gX4_voteOf_X4_mindsNow rfl rfl rfl (by decide +kernel) ⟨Nat.le_of_ble_eq_true rfl, Nat.le_of_ble_eq_true rfl⟩) (As := [.int (iI (k))]) (v := .int (iI (mm F (uR R 6 (u1 (R 6) (Int.toNat w) (v : Int))) (Int.toNat k)))) (hn := rfl) (hst := rfl) (rest := []) (hW := Nat.le_of_ble_eq_true rfl) (hdg := dX4_voteOf_32) (hf := ⟨Nat.le_of_ble_eq_true rfl, Nat.le_of_ble_eq_true rfl⟩) ?_
        refine lv_istore (lv' := [(7, .int (iI (mm F (uR R 6 (u1 (R 6) (Int.toNat w) (v : Int))) (Int.toNat k)))), (6, .int (iI ((v : Int)))), (5, .int (iI (lf (fun v : Nat => mm F (uR R 6 (u1 (R 6) (Int.toNat w) (v : Int))) (Int.toNat k)) v))), (4, .int (iI ((am (fun v : Nat => mm F (uR R 6 (u1 (R 6) (Int.toNat w) (v : Int))) (Int.toNat k)) v).1))), (3, .int (iI (R 6 (Int.toNat w)))), (0, .ref (ad 0)), (1, .int (iI (k))), (2, .int (iI (w)))]) hx hb dX4_voteOf_35 hl (by decide) rfl (fun ls hl => ?_)
        refine lv_iload hx hb dX4_voteOf_37 (lv_at hl 2 rfl) ?_
        refine jz_if_lt (tgt := 49) C dX4_voteOf_39 (by decide) (by omega) (fun h39 => ?_) (fun h39 => ?_)
        · skip
          refine lv_iload hx hb dX4_voteOf_49 (lv_at hl 1 rfl) ?_
          refine lv_goto (tgt := 56) hx hb dX4_voteOf_51 (by decide) ?_
          refine lv_istore (lv' := [(4, .int (iI ((v : Int)))), (7, .int (iI (mm F (uR R 6 (u1 (R 6) (Int.toNat w) (v : Int))) (Int.toNat k)))), (6, .int (iI ((v : Int)))), (5, .int (iI (lf (fun v : Nat => mm F (uR R 6 (u1 (R 6) (Int.toNat w) (v : Int))) (Int.toNat k)) v))), (3, .int (iI (R 6 (Int.toNat w)))), (0, .ref (ad 0)), (1, .int (iI (k))), (2, .int (iI (w)))]) hx hb dX4_voteOf_56 hl (by decide) rfl (fun ls hl => ?_)
          refine lv_iload hx hb dX4_voteOf_58 (lv_at hl 0 rfl) ?_
          refine lv_iload hx hb dX4_voteOf_60 (lv_at hl 2 rfl) ?_
          refine jz_icmp_ne (tgt := 70) C dX4_voteOf_62 (by decide) (by omega) (fun h62 => ?_) (fun h62 => ?_)
          · exact absurd rfl h62
          · skip
            refine lv_iload hx hb dX4_voteOf_65 (lv_at hl 1 rfl) ?_
            refine lv_goto (tgt := 72) hx hb dX4_voteOf_67 (by decide) ?_
            refine lv_istore (lv' := [(5, .int (iI (mm F (uR R 6 (u1 (R 6) (Int.toNat w) (v : Int))) (Int.toNat k)))), (4, .int (iI ((v : Int)))), (7, .int (iI (mm F (uR R 6 (u1 (R 6) (Int.toNat w) (v : Int))) (Int.toNat k)))), (6, .int (iI ((v : Int)))), (3, .int (iI (R 6 (Int.toNat w)))), (0, .ref (ad 0)), (1, .int (iI (k))), (2, .int (iI (w)))]) hx hb dX4_voteOf_72 hl (by decide) rfl (fun ls hl => ?_)
            refine jz_iinc (k := 3) (z := (v : Int) + 1) (lv' := [(6, .int (iI ((v : Int) + 1))), (5, .int (iI (mm F (uR R 6 (u1 (R 6) (Int.toNat w) (v : Int))) (Int.toNat k)))), (4, .int (iI ((v : Int)))), (7, .int (iI (mm F (uR R 6 (u1 (R 6) (Int.toNat w) (v : Int))) (Int.toNat k)))), (3, .int (iI (R 6 (Int.toNat w)))), (0, .ref (ad 0)), (1, .int (iI (k))), (2, .int (iI (w)))]) C dX4_voteOf_74 hl rfl rfl (by decide) rfl (fun ls hl => ?_)
            refine lv_goto (tgt := 16) hx hb dX4_voteOf_77 (by decide) ?_
            have hl9 : lv_has ls 8 [(6, .int (iI ((v + 1 : Int)))), (5, .int (iI (lf (fun v : Nat => mm F (uR R 6 (u1 (R 6) (Int.toNat w) (v : Int))) (Int.toNat k)) (v + 1)))), (4, .int (iI ((am (fun v : Nat => mm F (uR R 6 (u1 (R 6) (Int.toNat w) (v : Int))) (Int.toNat k)) (v + 1)).1))), (3, .int (iI (R 6 (Int.toNat w)))), (0, .ref (ad 0)), (1, .int (iI (k))), (2, .int (iI (w)))] := by
              rw [show ((am (fun v : Nat => mm F (uR R 6 (u1 (R 6) (Int.toNat w) (v : Int))) (Int.toNat k)) (v + 1)).1 : Int) = (v : Int) from by first | rw [lf_a hbv h39] | rw [lf_b hbv h46] | rw [(lf_c hbv h39 h46).1]]
              rw [show (lf (fun v : Nat => mm F (uR R 6 (u1 (R 6) (Int.toNat w) (v : Int))) (Int.toNat k)) (v + 1) : Int) = mm F (uR R 6 (u1 (R 6) (Int.toNat w) (v : Int))) (Int.toNat k) from by first | rw [lf_s, lf_a hbv h39] | rw [lf_s, lf_b hbv h46] | exact lf_d hbv h39 h46]
              exact lv_sub hl [0, 1, 2, 4, 5, 6, 7] rfl
            exact ih16 (v + 1) (v : Int) (by omega) (by omega) _ _ hP hS ls hl9
        · skip
          refine lv_iload hx hb dX4_voteOf_42 (lv_at hl 0 rfl) ?_
          refine lv_iload hx hb dX4_voteOf_44 (lv_at hl 2 rfl) ?_
          refine jz_icmp_ge (tgt := 54) C dX4_voteOf_46 (by decide) (by omega) (fun h46 => ?_) (fun h46 => ?_)
          · skip
            refine lv_iload hx hb dX4_voteOf_54 (lv_at hl 3 rfl) ?_
            refine lv_istore (lv' := [(4, .int (iI ((am (fun v : Nat => mm F (uR R 6 (u1 (R 6) (Int.toNat w) (v : Int))) (Int.toNat k)) v).1))), (7, .int (iI (mm F (uR R 6 (u1 (R 6) (Int.toNat w) (v : Int))) (Int.toNat k)))), (6, .int (iI ((v : Int)))), (5, .int (iI (lf (fun v : Nat => mm F (uR R 6 (u1 (R 6) (Int.toNat w) (v : Int))) (Int.toNat k)) v))), (3, .int (iI (R 6 (Int.toNat w)))), (0, .ref (ad 0)), (1, .int (iI (k))), (2, .int (iI (w)))]) hx hb dX4_voteOf_56 hl (by decide) rfl (fun ls hl => ?_)
            refine lv_iload hx hb dX4_voteOf_58 (lv_at hl 0 rfl) ?_
            refine lv_iload hx hb dX4_voteOf_60 (lv_at hl 2 rfl) ?_
            refine jz_icmp_ne (tgt := 70) C dX4_voteOf_62 (by decide) (by omega) (fun h62 => ?_) (fun h62 => ?_)
            · skip
              refine lv_iload hx hb dX4_voteOf_70 (lv_at hl 3 rfl) ?_
              refine lv_istore (lv' := [(5, .int (iI (lf (fun v : Nat => mm F (uR R 6 (u1 (R 6) (Int.toNat w) (v : Int))) (Int.toNat k)) v))), (4, .int (iI ((am (fun v : Nat => mm F (uR R 6 (u1 (R 6) (Int.toNat w) (v : Int))) (Int.toNat k)) v).1))), (7, .int (iI (mm F (uR R 6 (u1 (R 6) (Int.toNat w) (v : Int))) (Int.toNat k)))), (6, .int (iI ((v : Int)))), (3, .int (iI (R 6 (Int.toNat w)))), (0, .ref (ad 0)), (1, .int (iI (k))), (2, .int (iI (w)))]) hx hb dX4_voteOf_72 hl (by decide) rfl (fun ls hl => ?_)
              refine jz_iinc (k := 3) (z := (v : Int) + 1) (lv' := [(6, .int (iI ((v : Int) + 1))), (5, .int (iI (lf (fun v : Nat => mm F (uR R 6 (u1 (R 6) (Int.toNat w) (v : Int))) (Int.toNat k)) v))), (4, .int (iI ((am (fun v : Nat => mm F (uR R 6 (u1 (R 6) (Int.toNat w) (v : Int))) (Int.toNat k)) v).1))), (7, .int (iI (mm F (uR R 6 (u1 (R 6) (Int.toNat w) (v : Int))) (Int.toNat k)))), (3, .int (iI (R 6 (Int.toNat w)))), (0, .ref (ad 0)), (1, .int (iI (k))), (2, .int (iI (w)))]) C dX4_voteOf_74 hl rfl rfl (by decide) rfl (fun ls hl => ?_)
              refine lv_goto (tgt := 16) hx hb dX4_voteOf_77 (by decide) ?_
              have hl9 : lv_has ls 8 [(6, .int (iI ((v + 1 : Int)))), (5, .int (iI (lf (fun v : Nat => mm F (uR R 6 (u1 (R 6) (Int.toNat w) (v : Int))) (Int.toNat k)) (v + 1)))), (4, .int (iI ((am (fun v : Nat => mm F (uR R 6 (u1 (R 6) (Int.toNat w) (v : Int))) (Int.toNat k)) (v + 1)).1))), (3, .int (iI (R 6 (Int.toNat w)))), (0, .ref (ad 0)), (1, .int (iI (k))), (2, .int (iI (w)))] := by
                rw [show ((am (fun v : Nat => mm F (uR R 6 (u1 (R 6) (Int.toNat w) (v : Int))) (Int.toNat k)) (v + 1)).1 : Int) = (am (fun v : Nat => mm F (uR R 6 (u1 (R 6) (Int.toNat w) (v : Int))) (Int.toNat k)) v).1 from by first | rw [lf_a hbv h39] | rw [lf_b hbv h46] | rw [(lf_c hbv h39 h46).1]]
                rw [show (lf (fun v : Nat => mm F (uR R 6 (u1 (R 6) (Int.toNat w) (v : Int))) (Int.toNat k)) (v + 1) : Int) = lf (fun v : Nat => mm F (uR R 6 (u1 (R 6) (Int.toNat w) (v : Int))) (Int.toNat k)) v from by first | rw [lf_s, lf_a hbv h39] | rw [lf_s, lf_b hbv h46] | exact lf_d hbv h39 h46]
                exact lv_sub hl [0, 1, 2, 4, 5, 6, 7] rfl
              exact ih16 (v + 1) (v : Int) (by omega) (by omega) _ _ hP hS ls hl9
            · exact absurd h62 (lf_c hbv h39 h46).2
          · skip
            refine lv_iload hx hb dX4_voteOf_49 (lv_at hl 1 rfl) ?_
            refine lv_goto (tgt := 56) hx hb dX4_voteOf_51 (by decide) ?_
            refine lv_istore (lv' := [(4, .int (iI ((v : Int)))), (7, .int (iI (mm F (uR R 6 (u1 (R 6) (Int.toNat w) (v : Int))) (Int.toNat k)))), (6, .int (iI ((v : Int)))), (5, .int (iI (lf (fun v : Nat => mm F (uR R 6 (u1 (R 6) (Int.toNat w) (v : Int))) (Int.toNat k)) v))), (3, .int (iI (R 6 (Int.toNat w)))), (0, .ref (ad 0)), (1, .int (iI (k))), (2, .int (iI (w)))]) hx hb dX4_voteOf_56 hl (by decide) rfl (fun ls hl => ?_)
            refine lv_iload hx hb dX4_voteOf_58 (lv_at hl 0 rfl) ?_
            refine lv_iload hx hb dX4_voteOf_60 (lv_at hl 2 rfl) ?_
            refine jz_icmp_ne (tgt := 70) C dX4_voteOf_62 (by decide) (by omega) (fun h62 => ?_) (fun h62 => ?_)
            · exact absurd rfl h62
            · skip
              refine lv_iload hx hb dX4_voteOf_65 (lv_at hl 1 rfl) ?_
              refine lv_goto (tgt := 72) hx hb dX4_voteOf_67 (by decide) ?_
              refine lv_istore (lv' := [(5, .int (iI (mm F (uR R 6 (u1 (R 6) (Int.toNat w) (v : Int))) (Int.toNat k)))), (4, .int (iI ((v : Int)))), (7, .int (iI (mm F (uR R 6 (u1 (R 6) (Int.toNat w) (v : Int))) (Int.toNat k)))), (6, .int (iI ((v : Int)))), (3, .int (iI (R 6 (Int.toNat w)))), (0, .ref (ad 0)), (1, .int (iI (k))), (2, .int (iI (w)))]) hx hb dX4_voteOf_72 hl (by decide) rfl (fun ls hl => ?_)
              refine jz_iinc (k := 3) (z := (v : Int) + 1) (lv' := [(6, .int (iI ((v : Int) + 1))), (5, .int (iI (mm F (uR R 6 (u1 (R 6) (Int.toNat w) (v : Int))) (Int.toNat k)))), (4, .int (iI ((v : Int)))), (7, .int (iI (mm F (uR R 6 (u1 (R 6) (Int.toNat w) (v : Int))) (Int.toNat k)))), (3, .int (iI (R 6 (Int.toNat w)))), (0, .ref (ad 0)), (1, .int (iI (k))), (2, .int (iI (w)))]) C dX4_voteOf_74 hl rfl rfl (by decide) rfl (fun ls hl => ?_)
              refine lv_goto (tgt := 16) hx hb dX4_voteOf_77 (by decide) ?_
              have hl9 : lv_has ls 8 [(6, .int (iI ((v + 1 : Int)))), (5, .int (iI (lf (fun v : Nat => mm F (uR R 6 (u1 (R 6) (Int.toNat w) (v : Int))) (Int.toNat k)) (v + 1)))), (4, .int (iI ((am (fun v : Nat => mm F (uR R 6 (u1 (R 6) (Int.toNat w) (v : Int))) (Int.toNat k)) (v + 1)).1))), (3, .int (iI (R 6 (Int.toNat w)))), (0, .ref (ad 0)), (1, .int (iI (k))), (2, .int (iI (w)))] := by
                rw [show ((am (fun v : Nat => mm F (uR R 6 (u1 (R 6) (Int.toNat w) (v : Int))) (Int.toNat k)) (v + 1)).1 : Int) = (v : Int) from by first | rw [lf_a hbv h39] | rw [lf_b hbv h46] | rw [(lf_c hbv h39 h46).1]]
                rw [show (lf (fun v : Nat => mm F (uR R 6 (u1 (R 6) (Int.toNat w) (v : Int))) (Int.toNat k)) (v + 1) : Int) = mm F (uR R 6 (u1 (R 6) (Int.toNat w) (v : Int))) (Int.toNat k) from by first | rw [lf_s, lf_a hbv h39] | rw [lf_s, lf_b hbv h46] | exact lf_d hbv h39 h46]
                exact lv_sub hl [0, 1, 2, 4, 5, 6, 7] rfl
              exact ih16 (v + 1) (v : Int) (by omega) (by omega) _ _ hP hS ls hl9
  have hl9 : lv_has ls 8 [(6, .int (iI ((0 : Int)))), (5, .int (iI (lf (fun v : Nat => mm F (uR R 6 (u1 (R 6) (Int.toNat w) (v : Int))) (Int.toNat k)) 0))), (4, .int (iI ((am (fun v : Nat => mm F (uR R 6 (u1 (R 6) (Int.toNat w) (v : Int))) (Int.toNat k)) 0).1))), (3, .int (iI (R 6 (Int.toNat w)))), (0, .ref (ad 0)), (1, .int (iI (k))), (2, .int (iI (w)))] := by
    rw [show (lf (fun v : Nat => mm F (uR R 6 (u1 (R 6) (Int.toNat w) (v : Int))) (Int.toNat k)) 0 : Int) = -1 from by rfl]
    exact lv_sub hl [0, 1, 2, 3, 4, 5, 6] rfl
  exact key16 (Int.toNat (4 - (0 : Int)) + 1) 0 (R 6 (Int.toNat w)) (by omega) (by omega) _ _ (by rw [u1_id, uR_id]; exact hP) hS ls hl9
abbrev rm_X4_winsBy : Room := { frames := 4, cells := 0, slots := 0, locals := 100 }
set_option maxHeartbeats 4000000 in
set_option maxRecDepth 100000 in
theorem c_X4_winsBy {l : Launch} {D : va_G} {cI cS : ClassId} {ad : Nat → Nat} {F : Nat → Int} {R : Nat → Nat → Int} {A : Nat → Prop} (hD : va_D A (wM cI ad F R))  (w : Int) (bribed : Int) (v : Int)  (hM : MI F R) (hw : 0 ≤ w ∧ w < (F 3)) (hb9 : 0 ≤ bribed ∧ bribed < 64) (hv : 0 ≤ v ∧ v < 4): JV l yX4_winsBy wsX4_winsBy rm_X4_winsBy (jB D cI cS (wM cI ad F R)) A [.ref (ad 0), .int (iI (w)), .int (iI (bribed)), .int (iI (v))] (fun v9 (_ : Unit) => v9 = some (.int (iI (wm F R w bribed v)))) (fun _ H => va_P D vwCl (wM cI ad F R) H) := by
  refine JV.mkI rfl (by decide +kernel) rfl (Nat.le_of_ble_eq_true rfl) ?_
  intro p e st mi ar bl mth cd Q ls C hB hl hret
  obtain ⟨hE, hP⟩ := hB
  have hx := C.1
  have hb := C.2.1
  have hl : lv_has ls 10 [(0, .ref (ad 0)), (1, .int (iI (w))), (2, .int (iI (bribed))), (3, .int (iI (v)))] := hl
  have hin4 : ∀ w ∈ wsX40, w ∈ wsX4_winsBy := fun _ h => List.mem_cons_of_mem _ (List.mem_append_right _ h)
  suffices hgo : ∀ (H : Heap) (lc : List Loc), va_P D vwCl (wM cI ad F R) H → va_S A st.heap H lc → W p l e rm_X4_winsBy st mi ar bl mth cd H lc 0 0 Q (F0 mi 0 ls []) from hgo _ _ hP va_S.rf
  clear hP
  intro H lc hP hS
  have hK := hM.wards
  have hcb : ∀ x : Nat, 0 ≤ (fun x : Nat => ct (bv bribed v (fun k : Nat => vm F R k w)) (x : Int) (Int.toNat (F 7))) x ∧ (fun x : Nat => ct (bv bribed v (fun k : Nat => vm F R k w)) (x : Int) (Int.toNat (F 7))) x ≤ 6 := fun x => by have h5 := ct_bd (its := (bv bribed v (fun k : Nat => vm F R k w))) (x := (x : Int)) (n := Int.toNat (F 7)); exact ⟨h5.1, by first | omega | (simp only; omega)⟩
  have hc0 : ∀ x : Nat, 0 ≤ (fun x : Nat => ct (bv bribed v (fun k : Nat => vm F R k w)) (x : Int) (Int.toNat (F 7))) x := fun x => (hcb x).1
  refine jz_const C dX4_winsBy_0 ?_
  refine lv_istore (lv' := [(4, .int (iI (0))), (0, .ref (ad 0)), (1, .int (iI (w))), (2, .int (iI (bribed))), (3, .int (iI (v)))]) hx hb dX4_winsBy_1 hl (by decide) rfl (fun ls hl => ?_)
  refine jz_const C dX4_winsBy_3 ?_
  refine lv_istore (lv' := [(5, .int (iI (-1))), (4, .int (iI (0))), (0, .ref (ad 0)), (1, .int (iI (w))), (2, .int (iI (bribed))), (3, .int (iI (v)))]) hx hb dX4_winsBy_4 hl (by decide) rfl (fun ls hl => ?_)
  refine jz_const C dX4_winsBy_6 ?_
  refine lv_istore (lv' := [(6, .int (iI (0))), (5, .int (iI (-1))), (4, .int (iI (0))), (0, .ref (ad 0)), (1, .int (iI (w))), (2, .int (iI (bribed))), (3, .int (iI (v)))]) hx hb dX4_winsBy_7 hl (by decide) rfl (fun ls hl => ?_)
  have key9 : ∀ (n9 : Nat) (x : Nat) (hx4 : x ≤ 4), (4 - (x : Int) : Int) < n9 → ∀ (H : Heap) (lc : List Loc), va_P D vwCl (wM cI ad F R) H → va_S A st.heap H lc → ∀ (ls : Array Slot), lv_has ls 10 [(6, .int (iI ((x : Int)))), (5, .int (iI (mf (fun x : Nat => ct (bv bribed v (fun k : Nat => vm F R k w)) (x : Int) (Int.toNat (F 7))) x))), (4, .int (iI ((wn (fun x : Nat => ct (bv bribed v (fun k : Nat => vm F R k w)) (x : Int) (Int.toNat (F 7))) x).1))), (0, .ref (ad 0)), (1, .int (iI (w))), (2, .int (iI (bribed))), (3, .int (iI (v)))] → W p l e rm_X4_winsBy st mi ar bl mth cd H lc 0 0 Q (F0 mi 9 ls []) := by
    intro n9
    induction n9 with
    | zero => intro x hx4 hn9; exfalso; omega
    | succ n9 ih9 =>
      intro x hx4 hn9 H lc hP hS ls hl
      refine lv_iload hx hb dX4_winsBy_9 (lv_at hl 0 rfl) ?_
      refine jz_const C dX4_winsBy_11 ?_
      refine jz_icmp_ge (tgt := 113) C dX4_winsBy_12 (by decide) (by omega) (fun h12 => ?_) (fun h12 => ?_)
      · skip
        refine lv_iload hx hb dX4_winsBy_113 (lv_at hl 2 rfl) ?_
        exact hret _ () _ _ _ _ dX4_winsBy_115 (by rw [show x = 4 by omega]; rfl) hP hS
      · skip
        refine jz_const C dX4_winsBy_15 ?_
        refine lv_istore (lv' := [(7, .int (iI (0))), (6, .int (iI ((x : Int)))), (5, .int (iI (mf (fun x : Nat => ct (bv bribed v (fun k : Nat => vm F R k w)) (x : Int) (Int.toNat (F 7))) x))), (4, .int (iI ((wn (fun x : Nat => ct (bv bribed v (fun k : Nat => vm F R k w)) (x : Int) (Int.toNat (F 7))) x).1))), (0, .ref (ad 0)), (1, .int (iI (w))), (2, .int (iI (bribed))), (3, .int (iI (v)))]) hx hb dX4_winsBy_16 hl (by decide) rfl (fun ls hl => ?_)
        refine jz_const C dX4_winsBy_18 ?_
        refine lv_istore (lv' := [(8, .int (iI (0))), (7, .int (iI (0))), (6, .int (iI ((x : Int)))), (5, .int (iI (mf (fun x : Nat => ct (bv bribed v (fun k : Nat => vm F R k w)) (x : Int) (Int.toNat (F 7))) x))), (4, .int (iI ((wn (fun x : Nat => ct (bv bribed v (fun k : Nat => vm F R k w)) (x : Int) (Int.toNat (F 7))) x).1))), (0, .ref (ad 0)), (1, .int (iI (w))), (2, .int (iI (bribed))), (3, .int (iI (v)))]) hx hb dX4_winsBy_19 hl (by decide) rfl (fun ls hl => ?_)
        have key21 : ∀ (n21 : Nat) (k : Nat) (hk : (k : Int) ≤ F 7), (F 7 - (k : Int) : Int) < n21 → ∀ (H : Heap) (lc : List Loc), va_P D vwCl (wM cI ad F R) H → va_S A st.heap H lc → ∀ (ls : Array Slot), lv_has ls 10 [(8, .int (iI ((k : Int)))), (7, .int (iI (ct (bv bribed v (fun k : Nat => vm F R k w)) (x : Int) k))), (6, .int (iI ((x : Int)))), (5, .int (iI (mf (fun x : Nat => ct (bv bribed v (fun k : Nat => vm F R k w)) (x : Int) (Int.toNat (F 7))) x))), (4, .int (iI ((wn (fun x : Nat => ct (bv bribed v (fun k : Nat => vm F R k w)) (x : Int) (Int.toNat (F 7))) x).1))), (0, .ref (ad 0)), (1, .int (iI (w))), (2, .int (iI (bribed))), (3, .int (iI (v)))] → W p l e rm_X4_winsBy st mi ar bl mth cd H lc 0 0 Q (F0 mi 21 ls []) := by
          intro n21
          induction n21 with
          | zero => intro k hk hn9; exfalso; omega
          | succ n21 ih21 =>
            intro k hk hn9 H lc hP hS ls hl
            refine lv_iload hx hb dX4_winsBy_21 (lv_at hl 0 rfl) ?_
            refine lv_aload_n hx hb dX4_winsBy_23 rfl (lv_at hl 5 rfl) ?_
            refine fg_M_wards C hin4 hE hP (v := F 7) (List.mem_of_getElem? (i := 1) rfl) dX4_winsBy_24 rfl ?_
            refine jz_icmp_ge (tgt := 75) C dX4_winsBy_27 (by decide) (by omega) (fun h27 => ?_) (fun h27 => ?_)
            · skip
              refine lv_iload hx hb dX4_winsBy_75 (lv_at hl 1 rfl) ?_
              refine lv_iload hx hb dX4_winsBy_77 (lv_at hl 3 rfl) ?_
              have hkn : k = Int.toNat (F 7) := by omega
              have hct := ct_bd (its := (bv bribed v (fun k : Nat => vm F R k w))) (x := (x : Int)) (n := k)
              have hmf := mf_bd (g := (fun x : Nat => ct (bv bribed v (fun k : Nat => vm F R k w)) (x : Int) (Int.toNat (F 7)))) (n := x) (b := 6) (by omega) (fun y _ => hcb y)
              refine jz_icmp_le (tgt := 87) C dX4_winsBy_79 (by decide) (by omega) (fun h79 => ?_) (fun h79 => ?_)
              · skip
                refine lv_iload hx hb dX4_winsBy_87 (lv_at hl 4 rfl) ?_
                refine lv_istore (lv' := [(4, .int (iI ((wn (fun x : Nat => ct (bv bribed v (fun k : Nat => vm F R k w)) (x : Int) (Int.toNat (F 7))) x).1))), (8, .int (iI ((k : Int)))), (7, .int (iI (ct (bv bribed v (fun k : Nat => vm F R k w)) (x : Int) k))), (6, .int (iI ((x : Int)))), (5, .int (iI (mf (fun x : Nat => ct (bv bribed v (fun k : Nat => vm F R k w)) (x : Int) (Int.toNat (F 7))) x))), (0, .ref (ad 0)), (1, .int (iI (w))), (2, .int (iI (bribed))), (3, .int (iI (v)))]) hx hb dX4_winsBy_89 hl (by decide) rfl (fun ls hl => ?_)
                refine lv_iload hx hb dX4_winsBy_91 (lv_at hl 2 rfl) ?_
                refine lv_iload hx hb dX4_winsBy_93 (lv_at hl 4 rfl) ?_
                refine jz_icmp_le (tgt := 103) C dX4_winsBy_95 (by decide) (by omega) (fun h95 => ?_) (fun h95 => ?_)
                · skip
                  refine lv_iload hx hb dX4_winsBy_103 (lv_at hl 4 rfl) ?_
                  refine lv_istore (lv' := [(5, .int (iI (mf (fun x : Nat => ct (bv bribed v (fun k : Nat => vm F R k w)) (x : Int) (Int.toNat (F 7))) x))), (4, .int (iI ((wn (fun x : Nat => ct (bv bribed v (fun k : Nat => vm F R k w)) (x : Int) (Int.toNat (F 7))) x).1))), (8, .int (iI ((k : Int)))), (7, .int (iI (ct (bv bribed v (fun k : Nat => vm F R k w)) (x : Int) k))), (6, .int (iI ((x : Int)))), (0, .ref (ad 0)), (1, .int (iI (w))), (2, .int (iI (bribed))), (3, .int (iI (v)))]) hx hb dX4_winsBy_105 hl (by decide) rfl (fun ls hl => ?_)
                  refine jz_iinc (k := 4) (z := (x : Int) + 1) (lv' := [(6, .int (iI ((x : Int) + 1))), (5, .int (iI (mf (fun x : Nat => ct (bv bribed v (fun k : Nat => vm F R k w)) (x : Int) (Int.toNat (F 7))) x))), (4, .int (iI ((wn (fun x : Nat => ct (bv bribed v (fun k : Nat => vm F R k w)) (x : Int) (Int.toNat (F 7))) x).1))), (8, .int (iI ((k : Int)))), (7, .int (iI (ct (bv bribed v (fun k : Nat => vm F R k w)) (x : Int) k))), (0, .ref (ad 0)), (1, .int (iI (w))), (2, .int (iI (bribed))), (3, .int (iI (v)))]) C dX4_winsBy_107 hl rfl rfl (by decide) rfl (fun ls hl => ?_)
                  refine lv_goto (tgt := 9) hx hb dX4_winsBy_110 (by decide) ?_
                  have hl9 : lv_has ls 10 [(6, .int (iI ((x + 1 : Int)))), (5, .int (iI (mf (fun x : Nat => ct (bv bribed v (fun k : Nat => vm F R k w)) (x : Int) (Int.toNat (F 7))) (x + 1)))), (4, .int (iI ((wn (fun x : Nat => ct (bv bribed v (fun k : Nat => vm F R k w)) (x : Int) (Int.toNat (F 7))) (x + 1)).1))), (0, .ref (ad 0)), (1, .int (iI (w))), (2, .int (iI (bribed))), (3, .int (iI (v)))] := by
                    rw [show ((wn (fun x : Nat => ct (bv bribed v (fun k : Nat => vm F R k w)) (x : Int) (Int.toNat (F 7))) (x + 1)).1 : Int) = (wn (fun x : Nat => ct (bv bribed v (fun k : Nat => vm F R k w)) (x : Int) (Int.toNat (F 7))) x).1 from by subst hkn; first | exact (mf_a hc0 h79).1 | exact (mf_c hc0 h79).1]
                    rw [show (mf (fun x : Nat => ct (bv bribed v (fun k : Nat => vm F R k w)) (x : Int) (Int.toNat (F 7))) (x + 1) : Int) = mf (fun x : Nat => ct (bv bribed v (fun k : Nat => vm F R k w)) (x : Int) (Int.toNat (F 7))) x from by subst hkn; first | exact (mf_a hc0 h95).2 | exact (mf_c hc0 h95).2]
                    exact lv_sub hl [0, 1, 2, 5, 6, 7, 8] rfl
                  exact ih9 (x + 1) (by omega) (by omega) _ _ hP hS ls hl9
                · skip
                  refine lv_iload hx hb dX4_winsBy_98 (lv_at hl 2 rfl) ?_
                  refine lv_goto (tgt := 105) hx hb dX4_winsBy_100 (by decide) ?_
                  refine lv_istore (lv' := [(5, .int (iI (ct (bv bribed v (fun k : Nat => vm F R k w)) (x : Int) k))), (4, .int (iI ((wn (fun x : Nat => ct (bv bribed v (fun k : Nat => vm F R k w)) (x : Int) (Int.toNat (F 7))) x).1))), (8, .int (iI ((k : Int)))), (7, .int (iI (ct (bv bribed v (fun k : Nat => vm F R k w)) (x : Int) k))), (6, .int (iI ((x : Int)))), (0, .ref (ad 0)), (1, .int (iI (w))), (2, .int (iI (bribed))), (3, .int (iI (v)))]) hx hb dX4_winsBy_105 hl (by decide) rfl (fun ls hl => ?_)
                  refine jz_iinc (k := 4) (z := (x : Int) + 1) (lv' := [(6, .int (iI ((x : Int) + 1))), (5, .int (iI (ct (bv bribed v (fun k : Nat => vm F R k w)) (x : Int) k))), (4, .int (iI ((wn (fun x : Nat => ct (bv bribed v (fun k : Nat => vm F R k w)) (x : Int) (Int.toNat (F 7))) x).1))), (8, .int (iI ((k : Int)))), (7, .int (iI (ct (bv bribed v (fun k : Nat => vm F R k w)) (x : Int) k))), (0, .ref (ad 0)), (1, .int (iI (w))), (2, .int (iI (bribed))), (3, .int (iI (v)))]) C dX4_winsBy_107 hl rfl rfl (by decide) rfl (fun ls hl => ?_)
                  refine lv_goto (tgt := 9) hx hb dX4_winsBy_110 (by decide) ?_
                  have hl9 : lv_has ls 10 [(6, .int (iI ((x + 1 : Int)))), (5, .int (iI (mf (fun x : Nat => ct (bv bribed v (fun k : Nat => vm F R k w)) (x : Int) (Int.toNat (F 7))) (x + 1)))), (4, .int (iI ((wn (fun x : Nat => ct (bv bribed v (fun k : Nat => vm F R k w)) (x : Int) (Int.toNat (F 7))) (x + 1)).1))), (0, .ref (ad 0)), (1, .int (iI (w))), (2, .int (iI (bribed))), (3, .int (iI (v)))] := by
                    rw [show ((wn (fun x : Nat => ct (bv bribed v (fun k : Nat => vm F R k w)) (x : Int) (Int.toNat (F 7))) (x + 1)).1 : Int) = (wn (fun x : Nat => ct (bv bribed v (fun k : Nat => vm F R k w)) (x : Int) (Int.toNat (F 7))) x).1 from by subst hkn; first | exact (mf_a hc0 h79).1 | exact (mf_c hc0 h79).1]
                    rw [show (mf (fun x : Nat => ct (bv bribed v (fun k : Nat => vm F R k w)) (x : Int) (Int.toNat (F 7))) (x + 1) : Int) = ct (bv bribed v (fun k : Nat => vm F R k w)) (x : Int) k from by subst hkn; first | exact (mf_a hc0 h95).2 | exact (mf_c hc0 h95).2]
                    exact lv_sub hl [0, 1, 2, 5, 6, 7, 8] rfl
                  exact ih9 (x + 1) (by omega) (by omega) _ _ hP hS ls hl9
              · skip
                refine lv_iload hx hb dX4_winsBy_82 (lv_at hl 2 rfl) ?_
                refine lv_goto (tgt := 89) hx hb dX4_winsBy_84 (by decide) ?_
                refine lv_istore (lv' := [(4, .int (iI ((x : Int)))), (8, .int (iI ((k : Int)))), (7, .int (iI (ct (bv bribed v (fun k : Nat => vm F R k w)) (x : Int) k))), (6, .int (iI ((x : Int)))), (5, .int (iI (mf (fun x : Nat => ct (bv bribed v (fun k : Nat => vm F R k w)) (x : Int) (Int.toNat (F 7))) x))), (0, .ref (ad 0)), (1, .int (iI (w))), (2, .int (iI (bribed))), (3, .int (iI (v)))]) hx hb dX4_winsBy_89 hl (by decide) rfl (fun ls hl => ?_)
                refine lv_iload hx hb dX4_winsBy_91 (lv_at hl 2 rfl) ?_
                refine lv_iload hx hb dX4_winsBy_93 (lv_at hl 4 rfl) ?_
                refine jz_icmp_le (tgt := 103) C dX4_winsBy_95 (by decide) (by omega) (fun h95 => ?_) (fun h95 => ?_)
                · skip
                  refine lv_iload hx hb dX4_winsBy_103 (lv_at hl 4 rfl) ?_
                  refine lv_istore (lv' := [(5, .int (iI (mf (fun x : Nat => ct (bv bribed v (fun k : Nat => vm F R k w)) (x : Int) (Int.toNat (F 7))) x))), (4, .int (iI ((x : Int)))), (8, .int (iI ((k : Int)))), (7, .int (iI (ct (bv bribed v (fun k : Nat => vm F R k w)) (x : Int) k))), (6, .int (iI ((x : Int)))), (0, .ref (ad 0)), (1, .int (iI (w))), (2, .int (iI (bribed))), (3, .int (iI (v)))]) hx hb dX4_winsBy_105 hl (by decide) rfl (fun ls hl => ?_)
                  refine jz_iinc (k := 4) (z := (x : Int) + 1) (lv' := [(6, .int (iI ((x : Int) + 1))), (5, .int (iI (mf (fun x : Nat => ct (bv bribed v (fun k : Nat => vm F R k w)) (x : Int) (Int.toNat (F 7))) x))), (4, .int (iI ((x : Int)))), (8, .int (iI ((k : Int)))), (7, .int (iI (ct (bv bribed v (fun k : Nat => vm F R k w)) (x : Int) k))), (0, .ref (ad 0)), (1, .int (iI (w))), (2, .int (iI (bribed))), (3, .int (iI (v)))]) C dX4_winsBy_107 hl rfl rfl (by decide) rfl (fun ls hl => ?_)
                  refine lv_goto (tgt := 9) hx hb dX4_winsBy_110 (by decide) ?_
                  have hl9 : lv_has ls 10 [(6, .int (iI ((x + 1 : Int)))), (5, .int (iI (mf (fun x : Nat => ct (bv bribed v (fun k : Nat => vm F R k w)) (x : Int) (Int.toNat (F 7))) (x + 1)))), (4, .int (iI ((wn (fun x : Nat => ct (bv bribed v (fun k : Nat => vm F R k w)) (x : Int) (Int.toNat (F 7))) (x + 1)).1))), (0, .ref (ad 0)), (1, .int (iI (w))), (2, .int (iI (bribed))), (3, .int (iI (v)))] := by
                    rw [show ((wn (fun x : Nat => ct (bv bribed v (fun k : Nat => vm F R k w)) (x : Int) (Int.toNat (F 7))) (x + 1)).1 : Int) = (x : Int) from by subst hkn; first | exact (mf_a hc0 h79).1 | exact (mf_c hc0 h79).1]
                    rw [show (mf (fun x : Nat => ct (bv bribed v (fun k : Nat => vm F R k w)) (x : Int) (Int.toNat (F 7))) (x + 1) : Int) = mf (fun x : Nat => ct (bv bribed v (fun k : Nat => vm F R k w)) (x : Int) (Int.toNat (F 7))) x from by subst hkn; first | exact (mf_a hc0 h95).2 | exact (mf_c hc0 h95).2]
                    exact lv_sub hl [0, 1, 2, 5, 6, 7, 8] rfl
                  exact ih9 (x + 1) (by omega) (by omega) _ _ hP hS ls hl9
                · skip
                  refine lv_iload hx hb dX4_winsBy_98 (lv_at hl 2 rfl) ?_
                  refine lv_goto (tgt := 105) hx hb dX4_winsBy_100 (by decide) ?_
                  refine lv_istore (lv' := [(5, .int (iI (ct (bv bribed v (fun k : Nat => vm F R k w)) (x : Int) k))), (4, .int (iI ((x : Int)))), (8, .int (iI ((k : Int)))), (7, .int (iI (ct (bv bribed v (fun k : Nat => vm F R k w)) (x : Int) k))), (6, .int (iI ((x : Int)))), (0, .ref (ad 0)), (1, .int (iI (w))), (2, .int (iI (bribed))), (3, .int (iI (v)))]) hx hb dX4_winsBy_105 hl (by decide) rfl (fun ls hl => ?_)
                  refine jz_iinc (k := 4) (z := (x : Int) + 1) (lv' := [(6, .int (iI ((x : Int) + 1))), (5, .int (iI (ct (bv bribed v (fun k : Nat => vm F R k w)) (x : Int) k))), (4, .int (iI ((x : Int)))), (8, .int (iI ((k : Int)))), (7, .int (iI (ct (bv bribed v (fun k : Nat => vm F R k w)) (x : Int) k))), (0, .ref (ad 0)), (1, .int (iI (w))), (2, .int (iI (bribed))), (3, .int (iI (v)))]) C dX4_winsBy_107 hl rfl rfl (by decide) rfl (fun ls hl => ?_)
                  refine lv_goto (tgt := 9) hx hb dX4_winsBy_110 (by decide) ?_
                  have hl9 : lv_has ls 10 [(6, .int (iI ((x + 1 : Int)))), (5, .int (iI (mf (fun x : Nat => ct (bv bribed v (fun k : Nat => vm F R k w)) (x : Int) (Int.toNat (F 7))) (x + 1)))), (4, .int (iI ((wn (fun x : Nat => ct (bv bribed v (fun k : Nat => vm F R k w)) (x : Int) (Int.toNat (F 7))) (x + 1)).1))), (0, .ref (ad 0)), (1, .int (iI (w))), (2, .int (iI (bribed))), (3, .int (iI (v)))] := by
                    rw [show ((wn (fun x : Nat => ct (bv bribed v (fun k : Nat => vm F R k w)) (x : Int) (Int.toNat (F 7))) (x + 1)).1 : Int) = (x : Int) from by subst hkn; first | exact (mf_a hc0 h79).1 | exact (mf_c hc0 h79).1]
                    rw [show (mf (fun x : Nat => ct (bv bribed v (fun k : Nat => vm F R k w)) (x : Int) (Int.toNat (F 7))) (x + 1) : Int) = ct (bv bribed v (fun k : Nat => vm F R k w)) (x : Int) k from by subst hkn; first | exact (mf_a hc0 h95).2 | exact (mf_c hc0 h95).2]
                    exact lv_sub hl [0, 1, 2, 5, 6, 7, 8] rfl
                  exact ih9 (x + 1) (by omega) (by omega) _ _ hP hS ls hl9
            · skip
              have hvk := vm_bd hM (k := k) (w := w) (by omega)
              have hct := ct_bd (its := (bv bribed v (fun k : Nat => vm F R k w))) (x := (x : Int)) (n := k)
              refine lv_iload_n hx hb dX4_winsBy_30 rfl (lv_at hl 7 rfl) ?_
              refine lv_iload hx hb dX4_winsBy_31 (lv_at hl 0 rfl) ?_
              refine jc_S C hl.1 (jpreS hE hP) (c_X4_isIn bribed (k : Int) (show 0 ≤ bribed ∧ bribed < 64 from (by omega)) (show 0 ≤ (k : Int) ∧ (k : Int) < 6 from (by omega))) (va_cwS 2 C.2.2.2.2 gX4_winsBy_X4_isIn rfl rfl rfl (by decide +kernel) ⟨Nat.le_of_ble_eq_true rfl, Nat.le_of_ble_eq_true rfl⟩) (As := [.int (iI (bribed)), .int (iI ((k : Int)))]) (v := .int (iI (if bribed / 2 ^ k % 2 ^ 1 = 1 then 1 else 0))) (hn := rfl) (hst := rfl) (rest := []) (hW := Nat.le_of_ble_eq_true rfl) (hdg := dX4_winsBy_33) (hf := ⟨Nat.le_of_ble_eq_true rfl, Nat.le_of_ble_eq_true rfl⟩) ?_
              refine jz_bool_eq (tgt := 43) C dX4_winsBy_36 (by decide) (fun h36 => ?_) (fun h36 => ?_)
              · skip
                refine lv_aload_n hx hb dX4_winsBy_43 rfl (lv_at hl 5 rfl) ?_
                refine lv_iload hx hb dX4_winsBy_44 (lv_at hl 0 rfl) ?_
                refine lv_iload_n hx hb dX4_winsBy_46 rfl (lv_at hl 6 rfl) ?_
                refine jw_V C hl.1 (jpreV hE hP 4 0 rfl rfl) (c_X4_voteOf (A := A) (jDM hD) (k : Int) w (by first | exact hM | assumption) (show 0 ≤ (k : Int) ∧ (k : Int) < 6 from (by omega)) (show 0 ≤ w ∧ w < (F 3) from (by omega))) (cwV 2 C.2.2.2.2 gX4_winsBy_X4_voteOf rfl rfl rfl (by decide +kernel) ⟨Nat.le_of_ble_eq_true rfl, Nat.le_of_ble_eq_true rfl⟩) (As := [.int (iI ((k : Int))), .int (iI (w))]) (hn := rfl) (hst := rfl) (rest := []) (hW := Nat.le_of_ble_eq_true rfl) (hdg := dX4_winsBy_47) (hf := ⟨Nat.le_of_ble_eq_true rfl, Nat.le_of_ble_eq_true rfl⟩) hS (fun v9 uq47 H lc hq9 hP hS => ?_)
                obtain rfl : v9 = some (.int (iI (vm F R k w))) := hq9
                have hP : va_P D vwCl (wM cI ad F R) H := hP
                refine lv_istore (lv' := [(9, .int (iI (vm F R k w))), (8, .int (iI ((k : Int)))), (7, .int (iI (ct (bv bribed v (fun k : Nat => vm F R k w)) (x : Int) k))), (6, .int (iI ((x : Int)))), (5, .int (iI (mf (fun x : Nat => ct (bv bribed v (fun k : Nat => vm F R k w)) (x : Int) (Int.toNat (F 7))) x))), (4, .int (iI ((wn (fun x : Nat => ct (bv bribed v (fun k : Nat => vm F R k w)) (x : Int) (Int.toNat (F 7))) x).1))), (0, .ref (ad 0)), (1, .int (iI (w))), (2, .int (iI (bribed))), (3, .int (iI (v)))]) hx hb dX4_winsBy_50 hl (by decide) rfl (fun ls hl => ?_)
                refine lv_iload hx hb dX4_winsBy_52 (lv_at hl 2 rfl) ?_
                refine lv_iload hx hb dX4_winsBy_54 (lv_at hl 0 rfl) ?_
                refine lv_iload hx hb dX4_winsBy_56 (lv_at hl 3 rfl) ?_
                refine jz_icmp_ne (tgt := 65) C dX4_winsBy_58 (by decide) (by omega) (fun h58 => ?_) (fun h58 => ?_)
                · skip
                  refine jz_const C dX4_winsBy_65 ?_
                  refine jz_iadd C dX4_winsBy_66 ?_
                  refine lv_istore (lv' := [(7, .int (iI ((ct (bv bribed v (fun k : Nat => vm F R k w)) (x : Int) k) + 0))), (9, .int (iI (vm F R k w))), (8, .int (iI ((k : Int)))), (6, .int (iI ((x : Int)))), (5, .int (iI (mf (fun x : Nat => ct (bv bribed v (fun k : Nat => vm F R k w)) (x : Int) (Int.toNat (F 7))) x))), (4, .int (iI ((wn (fun x : Nat => ct (bv bribed v (fun k : Nat => vm F R k w)) (x : Int) (Int.toNat (F 7))) x).1))), (0, .ref (ad 0)), (1, .int (iI (w))), (2, .int (iI (bribed))), (3, .int (iI (v)))]) hx hb dX4_winsBy_67 hl (by decide) rfl (fun ls hl => ?_)
                  refine jz_iinc (k := 2) (z := (k : Int) + 1) (lv' := [(8, .int (iI ((k : Int) + 1))), (7, .int (iI ((ct (bv bribed v (fun k : Nat => vm F R k w)) (x : Int) k) + 0))), (9, .int (iI (vm F R k w))), (6, .int (iI ((x : Int)))), (5, .int (iI (mf (fun x : Nat => ct (bv bribed v (fun k : Nat => vm F R k w)) (x : Int) (Int.toNat (F 7))) x))), (4, .int (iI ((wn (fun x : Nat => ct (bv bribed v (fun k : Nat => vm F R k w)) (x : Int) (Int.toNat (F 7))) x).1))), (0, .ref (ad 0)), (1, .int (iI (w))), (2, .int (iI (bribed))), (3, .int (iI (v)))]) C dX4_winsBy_69 hl rfl rfl (by decide) rfl (fun ls hl => ?_)
                  refine lv_goto (tgt := 21) hx hb dX4_winsBy_72 (by decide) ?_
                  have hl9 : lv_has ls 10 [(8, .int (iI ((k + 1 : Int)))), (7, .int (iI (ct (bv bribed v (fun k : Nat => vm F R k w)) (x : Int) (k + 1)))), (6, .int (iI ((x : Int)))), (5, .int (iI (mf (fun x : Nat => ct (bv bribed v (fun k : Nat => vm F R k w)) (x : Int) (Int.toNat (F 7))) x))), (4, .int (iI ((wn (fun x : Nat => ct (bv bribed v (fun k : Nat => vm F R k w)) (x : Int) (Int.toNat (F 7))) x).1))), (0, .ref (ad 0)), (1, .int (iI (w))), (2, .int (iI (bribed))), (3, .int (iI (v)))] := by
                    rw [show (ct (bv bribed v (fun k : Nat => vm F R k w)) (x : Int) (k + 1) : Int) = (ct (bv bribed v (fun k : Nat => vm F R k w)) (x : Int) k) + 0 from by first | exact ct_t ((bv_t h36).trans h58) | exact ct_t ((bv_f h36).trans h58) | exact (ct_f (fun q => h58 ((bv_t h36).symm.trans q))).trans (Int.add_zero _).symm | exact (ct_f (fun q => h58 ((bv_f h36).symm.trans q))).trans (Int.add_zero _).symm]
                    exact lv_sub hl [0, 1, 3, 4, 5, 6, 7, 8, 9] rfl
                  exact ih21 (k + 1) (by omega) (by omega) _ _ hP hS ls hl9
                · skip
                  refine jz_const C dX4_winsBy_61 ?_
                  refine lv_goto (tgt := 66) hx hb dX4_winsBy_62 (by decide) ?_
                  refine jz_iadd C dX4_winsBy_66 ?_
                  refine lv_istore (lv' := [(7, .int (iI ((ct (bv bribed v (fun k : Nat => vm F R k w)) (x : Int) k) + 1))), (9, .int (iI (vm F R k w))), (8, .int (iI ((k : Int)))), (6, .int (iI ((x : Int)))), (5, .int (iI (mf (fun x : Nat => ct (bv bribed v (fun k : Nat => vm F R k w)) (x : Int) (Int.toNat (F 7))) x))), (4, .int (iI ((wn (fun x : Nat => ct (bv bribed v (fun k : Nat => vm F R k w)) (x : Int) (Int.toNat (F 7))) x).1))), (0, .ref (ad 0)), (1, .int (iI (w))), (2, .int (iI (bribed))), (3, .int (iI (v)))]) hx hb dX4_winsBy_67 hl (by decide) rfl (fun ls hl => ?_)
                  refine jz_iinc (k := 2) (z := (k : Int) + 1) (lv' := [(8, .int (iI ((k : Int) + 1))), (7, .int (iI ((ct (bv bribed v (fun k : Nat => vm F R k w)) (x : Int) k) + 1))), (9, .int (iI (vm F R k w))), (6, .int (iI ((x : Int)))), (5, .int (iI (mf (fun x : Nat => ct (bv bribed v (fun k : Nat => vm F R k w)) (x : Int) (Int.toNat (F 7))) x))), (4, .int (iI ((wn (fun x : Nat => ct (bv bribed v (fun k : Nat => vm F R k w)) (x : Int) (Int.toNat (F 7))) x).1))), (0, .ref (ad 0)), (1, .int (iI (w))), (2, .int (iI (bribed))), (3, .int (iI (v)))]) C dX4_winsBy_69 hl rfl rfl (by decide) rfl (fun ls hl => ?_)
                  refine lv_goto (tgt := 21) hx hb dX4_winsBy_72 (by decide) ?_
                  have hl9 : lv_has ls 10 [(8, .int (iI ((k + 1 : Int)))), (7, .int (iI (ct (bv bribed v (fun k : Nat => vm F R k w)) (x : Int) (k + 1)))), (6, .int (iI ((x : Int)))), (5, .int (iI (mf (fun x : Nat => ct (bv bribed v (fun k : Nat => vm F R k w)) (x : Int) (Int.toNat (F 7))) x))), (4, .int (iI ((wn (fun x : Nat => ct (bv bribed v (fun k : Nat => vm F R k w)) (x : Int) (Int.toNat (F 7))) x).1))), (0, .ref (ad 0)), (1, .int (iI (w))), (2, .int (iI (bribed))), (3, .int (iI (v)))] := by
                    rw [show (ct (bv bribed v (fun k : Nat => vm F R k w)) (x : Int) (k + 1) : Int) = (ct (bv bribed v (fun k : Nat => vm F R k w)) (x : Int) k) + 1 from by first | exact ct_t ((bv_t h36).trans h58) | exact ct_t ((bv_f h36).trans h58) | exact (ct_f (fun q => h58 ((bv_t h36).symm.trans q))).trans (Int.add_zero _).symm | exact (ct_f (fun q => h58 ((bv_f h36).symm.trans q))).trans (Int.add_zero _).symm]
                    exact lv_sub hl [0, 1, 3, 4, 5, 6, 7, 8, 9] rfl
                  exact ih21 (k + 1) (by omega) (by omega) _ _ hP hS ls hl9
              · skip
                refine lv_iload_n hx hb dX4_winsBy_39 rfl (lv_at hl 8 rfl) ?_
                refine lv_goto (tgt := 50) hx hb dX4_winsBy_40 (by decide) ?_
                refine lv_istore (lv' := [(9, .int (iI (v))), (8, .int (iI ((k : Int)))), (7, .int (iI (ct (bv bribed v (fun k : Nat => vm F R k w)) (x : Int) k))), (6, .int (iI ((x : Int)))), (5, .int (iI (mf (fun x : Nat => ct (bv bribed v (fun k : Nat => vm F R k w)) (x : Int) (Int.toNat (F 7))) x))), (4, .int (iI ((wn (fun x : Nat => ct (bv bribed v (fun k : Nat => vm F R k w)) (x : Int) (Int.toNat (F 7))) x).1))), (0, .ref (ad 0)), (1, .int (iI (w))), (2, .int (iI (bribed))), (3, .int (iI (v)))]) hx hb dX4_winsBy_50 hl (by decide) rfl (fun ls hl => ?_)
                refine lv_iload hx hb dX4_winsBy_52 (lv_at hl 2 rfl) ?_
                refine lv_iload hx hb dX4_winsBy_54 (lv_at hl 0 rfl) ?_
                refine lv_iload hx hb dX4_winsBy_56 (lv_at hl 3 rfl) ?_
                refine jz_icmp_ne (tgt := 65) C dX4_winsBy_58 (by decide) (by omega) (fun h58 => ?_) (fun h58 => ?_)
                · skip
                  refine jz_const C dX4_winsBy_65 ?_
                  refine jz_iadd C dX4_winsBy_66 ?_
                  refine lv_istore (lv' := [(7, .int (iI ((ct (bv bribed v (fun k : Nat => vm F R k w)) (x : Int) k) + 0))), (9, .int (iI (v))), (8, .int (iI ((k : Int)))), (6, .int (iI ((x : Int)))), (5, .int (iI (mf (fun x : Nat => ct (bv bribed v (fun k : Nat => vm F R k w)) (x : Int) (Int.toNat (F 7))) x))), (4, .int (iI ((wn (fun x : Nat => ct (bv bribed v (fun k : Nat => vm F R k w)) (x : Int) (Int.toNat (F 7))) x).1))), (0, .ref (ad 0)), (1, .int (iI (w))), (2, .int (iI (bribed))), (3, .int (iI (v)))]) hx hb dX4_winsBy_67 hl (by decide) rfl (fun ls hl => ?_)
                  refine jz_iinc (k := 2) (z := (k : Int) + 1) (lv' := [(8, .int (iI ((k : Int) + 1))), (7, .int (iI ((ct (bv bribed v (fun k : Nat => vm F R k w)) (x : Int) k) + 0))), (9, .int (iI (v))), (6, .int (iI ((x : Int)))), (5, .int (iI (mf (fun x : Nat => ct (bv bribed v (fun k : Nat => vm F R k w)) (x : Int) (Int.toNat (F 7))) x))), (4, .int (iI ((wn (fun x : Nat => ct (bv bribed v (fun k : Nat => vm F R k w)) (x : Int) (Int.toNat (F 7))) x).1))), (0, .ref (ad 0)), (1, .int (iI (w))), (2, .int (iI (bribed))), (3, .int (iI (v)))]) C dX4_winsBy_69 hl rfl rfl (by decide) rfl (fun ls hl => ?_)
                  refine lv_goto (tgt := 21) hx hb dX4_winsBy_72 (by decide) ?_
                  have hl9 : lv_has ls 10 [(8, .int (iI ((k + 1 : Int)))), (7, .int (iI (ct (bv bribed v (fun k : Nat => vm F R k w)) (x : Int) (k + 1)))), (6, .int (iI ((x : Int)))), (5, .int (iI (mf (fun x : Nat => ct (bv bribed v (fun k : Nat => vm F R k w)) (x : Int) (Int.toNat (F 7))) x))), (4, .int (iI ((wn (fun x : Nat => ct (bv bribed v (fun k : Nat => vm F R k w)) (x : Int) (Int.toNat (F 7))) x).1))), (0, .ref (ad 0)), (1, .int (iI (w))), (2, .int (iI (bribed))), (3, .int (iI (v)))] := by
                    rw [show (ct (bv bribed v (fun k : Nat => vm F R k w)) (x : Int) (k + 1) : Int) = (ct (bv bribed v (fun k : Nat => vm F R k w)) (x : Int) k) + 0 from by first | exact ct_t ((bv_t h36).trans h58) | exact ct_t ((bv_f h36).trans h58) | exact (ct_f (fun q => h58 ((bv_t h36).symm.trans q))).trans (Int.add_zero _).symm | exact (ct_f (fun q => h58 ((bv_f h36).symm.trans q))).trans (Int.add_zero _).symm]
                    exact lv_sub hl [0, 1, 3, 4, 5, 6, 7, 8, 9] rfl
                  exact ih21 (k + 1) (by omega) (by omega) _ _ hP hS ls hl9
                · skip
                  refine jz_const C dX4_winsBy_61 ?_
                  refine lv_goto (tgt := 66) hx hb dX4_winsBy_62 (by decide) ?_
                  refine jz_iadd C dX4_winsBy_66 ?_
                  refine lv_istore (lv' := [(7, .int (iI ((ct (bv bribed v (fun k : Nat => vm F R k w)) (x : Int) k) + 1))), (9, .int (iI (v))), (8, .int (iI ((k : Int)))), (6, .int (iI ((x : Int)))), (5, .int (iI (mf (fun x : Nat => ct (bv bribed v (fun k : Nat => vm F R k w)) (x : Int) (Int.toNat (F 7))) x))), (4, .int (iI ((wn (fun x : Nat => ct (bv bribed v (fun k : Nat => vm F R k w)) (x : Int) (Int.toNat (F 7))) x).1))), (0, .ref (ad 0)), (1, .int (iI (w))), (2, .int (iI (bribed))), (3, .int (iI (v)))]) hx hb dX4_winsBy_67 hl (by decide) rfl (fun ls hl => ?_)
                  refine jz_iinc (k := 2) (z := (k : Int) + 1) (lv' := [(8, .int (iI ((k : Int) + 1))), (7, .int (iI ((ct (bv bribed v (fun k : Nat => vm F R k w)) (x : Int) k) + 1))), (9, .int (iI (v))), (6, .int (iI ((x : Int)))), (5, .int (iI (mf (fun x : Nat => ct (bv bribed v (fun k : Nat => vm F R k w)) (x : Int) (Int.toNat (F 7))) x))), (4, .int (iI ((wn (fun x : Nat => ct (bv bribed v (fun k : Nat => vm F R k w)) (x : Int) (Int.toNat (F 7))) x).1))), (0, .ref (ad 0)), (1, .int (iI (w))), (2, .int (iI (bribed))), (3, .int (iI (v)))]) C dX4_winsBy_69 hl rfl rfl (by decide) rfl (fun ls hl => ?_)
                  refine lv_goto (tgt := 21) hx hb dX4_winsBy_72 (by decide) ?_
                  have hl9 : lv_has ls 10 [(8, .int (iI ((k + 1 : Int)))), (7, .int (iI (ct (bv bribed v (fun k : Nat => vm F R k w)) (x : Int) (k + 1)))), (6, .int (iI ((x : Int)))), (5, .int (iI (mf (fun x : Nat => ct (bv bribed v (fun k : Nat => vm F R k w)) (x : Int) (Int.toNat (F 7))) x))), (4, .int (iI ((wn (fun x : Nat => ct (bv bribed v (fun k : Nat => vm F R k w)) (x : Int) (Int.toNat (F 7))) x).1))), (0, .ref (ad 0)), (1, .int (iI (w))), (2, .int (iI (bribed))), (3, .int (iI (v)))] := by
                    rw [show (ct (bv bribed v (fun k : Nat => vm F R k w)) (x : Int) (k + 1) : Int) = (ct (bv bribed v (fun k : Nat => vm F R k w)) (x : Int) k) + 1 from by first | exact ct_t ((bv_t h36).trans h58) | exact ct_t ((bv_f h36).trans h58) | exact (ct_f (fun q => h58 ((bv_t h36).symm.trans q))).trans (Int.add_zero _).symm | exact (ct_f (fun q => h58 ((bv_f h36).symm.trans q))).trans (Int.add_zero _).symm]
                    exact lv_sub hl [0, 1, 3, 4, 5, 6, 7, 8, 9] rfl
                  exact ih21 (k + 1) (by omega) (by omega) _ _ hP hS ls hl9
        exact key21 (Int.toNat (F 7 - (0 : Int)) + 1) 0 (by omega) (by omega) _ _ hP hS ls (lv_sub hl [0, 1, 2, 3, 4, 5, 6, 7, 8] rfl)
  have hl9 : lv_has ls 10 [(6, .int (iI ((0 : Int)))), (5, .int (iI (mf (fun x : Nat => ct (bv bribed v (fun k : Nat => vm F R k w)) (x : Int) (Int.toNat (F 7))) 0))), (4, .int (iI ((wn (fun x : Nat => ct (bv bribed v (fun k : Nat => vm F R k w)) (x : Int) (Int.toNat (F 7))) 0).1))), (0, .ref (ad 0)), (1, .int (iI (w))), (2, .int (iI (bribed))), (3, .int (iI (v)))] := by
    rw [show (mf (fun x : Nat => ct (bv bribed v (fun k : Nat => vm F R k w)) (x : Int) (Int.toNat (F 7))) 0 : Int) = -1 from by rfl]
    exact lv_sub hl [0, 1, 2, 3, 4, 5, 6] rfl
  exact key9 (Int.toNat (4 - (0 : Int)) + 1) 0 (by omega) (by omega) _ _ hP hS ls hl9
abbrev rm_X4_goYear : Room := { frames := 5, cells := 0, slots := 0, locals := 129 }
set_option maxHeartbeats 4000000 in
set_option maxRecDepth 100000 in
theorem c_X4_goYear {l : Launch} {D : va_G} {cI cS : ClassId} {ad : Nat → Nat} {F : Nat → Int} {R : Nat → Nat → Int} {A : Nat → Prop} (hD : va_D A (wM cI ad F R))    (hM : MI F R): JV l yX4_goYear wsX4_goYear rm_X4_goYear (jB D cI cS (wM cI ad F R)) A [.ref (ad 0)] (fun v9 (_ : Unit) => v9 = some (.int (iI (yc F R (Int.toNat (F 3)))))) (fun _ H => va_P D vwCl (wM cI ad F (uR R 6 (ym F R (Int.toNat (F 3))))) H) := by
  refine JV.mkI rfl (by decide +kernel) rfl (Nat.le_of_ble_eq_true rfl) ?_
  intro p e st mi ar bl mth cd Q ls C hB hl hret
  obtain ⟨hE, hP⟩ := hB
  have hx := C.1
  have hb := C.2.1
  have hl : lv_has ls 4 [(0, .ref (ad 0))] := hl
  have hin4 : ∀ w ∈ wsX40, w ∈ wsX4_goYear := fun _ h => List.mem_cons_of_mem _ (List.mem_append_right _ h)
  suffices hgo : ∀ (H : Heap) (lc : List Loc), va_P D vwCl (wM cI ad F R) H → va_S A st.heap H lc → W p l e rm_X4_goYear st mi ar bl mth cd H lc 0 0 Q (F0 mi 0 ls []) from hgo _ _ hP va_S.rf
  clear hP
  intro H lc hP hS
  have hW := hM.works
  refine jz_const C dX4_goYear_0 ?_
  refine lv_istore_n (lv' := [(1, .int (iI (0))), (0, .ref (ad 0))]) hx hb dX4_goYear_1 rfl hl (by decide) rfl (fun ls hl => ?_)
  refine jz_const C dX4_goYear_2 ?_
  refine lv_istore_n (lv' := [(2, .int (iI (0))), (1, .int (iI (0))), (0, .ref (ad 0))]) hx hb dX4_goYear_3 rfl hl (by decide) rfl (fun ls hl => ?_)
  have key4 : ∀ (n4 : Nat) (w : Nat) (hw : (w : Int) ≤ F 3), (F 3 - (w : Int) : Int) < n4 → ∀ (H : Heap) (lc : List Loc), va_P D vwCl (wM cI ad F (uR R 6 (ym F R w))) H → va_S A st.heap H lc → ∀ (ls : Array Slot), lv_has ls 4 [(2, .int (iI ((w : Int)))), (1, .int (iI (yc F R w))), (0, .ref (ad 0))] → W p l e rm_X4_goYear st mi ar bl mth cd H lc 0 0 Q (F0 mi 4 ls []) := by
    intro n4
    induction n4 with
    | zero => intro w hw hn9; exfalso; omega
    | succ n4 ih4 =>
      intro w hw hn9 H lc hP hS ls hl
      refine lv_iload_n hx hb dX4_goYear_4 rfl (lv_at hl 0 rfl) ?_
      refine lv_aload_n hx hb dX4_goYear_5 rfl (lv_at hl 2 rfl) ?_
      refine fg_M_works C hin4 hE hP (v := F 3) (List.mem_of_getElem? (i := 1) rfl) dX4_goYear_6 rfl ?_
      refine jz_icmp_ge (tgt := 51) C dX4_goYear_9 (by decide) (by omega) (fun h9 => ?_) (fun h9 => ?_)
      · skip
        refine lv_iload_n hx hb dX4_goYear_51 rfl (lv_at hl 1 rfl) ?_
        exact hret _ () _ _ _ _ dX4_goYear_52 (by rw [show Int.toNat (F 3) = w by omega]) (by rw [show Int.toNat (F 3) = w by omega]; exact hP) hS
      · skip
        have hyM := hM.yr (w := w)
        have hyo := ym_ok hM w w (by omega)
        have hyc := yc_bd (F := F) (R := R) (w := w)
        refine lv_aload_n hx hb dX4_goYear_12 rfl (lv_at hl 2 rfl) ?_
        refine lv_iload_n hx hb dX4_goYear_13 rfl (lv_at hl 0 rfl) ?_
        refine jz_const C dX4_goYear_14 ?_
        refine jz_const C dX4_goYear_15 ?_
        refine jw_V C hl.1 (jpreV hE hP 4 0 rfl rfl) (c_X4_winsBy (A := A) (jDM hD) (w : Int) 0 0 hyM (show 0 ≤ (w : Int) ∧ (w : Int) < (F 3) from (by omega)) (show 0 ≤ 0 ∧ 0 < 64 from (by omega)) (show 0 ≤ 0 ∧ 0 < 4 from (by omega))) (cwV 3 C.2.2.2.2 gX4_goYear_X4_winsBy rfl rfl rfl (by decide +kernel) ⟨Nat.le_of_ble_eq_true rfl, Nat.le_of_ble_eq_true rfl⟩) (As := [.int (iI ((w : Int))), .int (iI (0)), .int (iI (0))]) (hn := rfl) (hst := rfl) (rest := []) (hW := Nat.le_of_ble_eq_true rfl) (hdg := dX4_goYear_16) (hf := ⟨Nat.le_of_ble_eq_true rfl, Nat.le_of_ble_eq_true rfl⟩) hS (fun v9 uq16 H lc hq9 hP hS => ?_)
        obtain rfl : v9 = some (.int (iI (wm F (uR R 6 (ym F R w)) (w : Int) 0 0))) := hq9
        have hP : va_P D vwCl (wM cI ad F (uR R 6 (ym F R w))) H := hP
        have hwi : 0 ≤ wm F (uR R 6 (ym F R w)) (w : Int) 0 0 ∧ wm F (uR R 6 (ym F R w)) (w : Int) 0 0 < 4 := wi_bd
        refine lv_istore_n (lv' := [(3, .int (iI (wm F (uR R 6 (ym F R w)) (w : Int) 0 0))), (2, .int (iI ((w : Int)))), (1, .int (iI (yc F R w))), (0, .ref (ad 0))]) hx hb dX4_goYear_19 rfl hl (by decide) rfl (fun ls hl => ?_)
        refine lv_iload_n hx hb dX4_goYear_20 rfl (lv_at hl 2 rfl) ?_
        refine lv_iload_n hx hb dX4_goYear_21 rfl (lv_at hl 0 rfl) ?_
        refine lv_aload_n hx hb dX4_goYear_22 rfl (lv_at hl 3 rfl) ?_
        refine fg_M_vaneOf C hin4 hE hP (List.mem_of_getElem? (i := 2) rfl) dX4_goYear_23 ?_
        refine lv_iload_n hx hb dX4_goYear_26 rfl (lv_at hl 1 rfl) ?_
        refine fl_M_vaneOf C hE hP (v := (ym F R w) w) dX4_goYear_27 (by omega) rfl ?_
        refine jz_icmp_ne (tgt := 35) C dX4_goYear_28 (by decide) (by omega) (fun h28 => ?_) (fun h28 => ?_)
        · skip
          refine jz_const C dX4_goYear_35 ?_
          refine jz_iadd C dX4_goYear_36 ?_
          refine lv_istore_n (lv' := [(1, .int (iI ((yc F R w) + 1))), (3, .int (iI (wm F (uR R 6 (ym F R w)) (w : Int) 0 0))), (2, .int (iI ((w : Int)))), (0, .ref (ad 0))]) hx hb dX4_goYear_37 rfl hl (by decide) rfl (fun ls hl => ?_)
          refine lv_aload_n hx hb dX4_goYear_38 rfl (lv_at hl 3 rfl) ?_
          refine fg_M_vaneOf C hin4 hE hP (List.mem_of_getElem? (i := 2) rfl) dX4_goYear_39 ?_
          refine lv_iload_n hx hb dX4_goYear_42 rfl (lv_at hl 2 rfl) ?_
          refine lv_iload_n hx hb dX4_goYear_43 rfl (lv_at hl 1 rfl) ?_
          refine fs_M_vaneOf C hE hP (jDM hD) hS dX4_goYear_44 (by omega) (fun H lc hP hS => ?_)
          refine jz_iinc (k := 2) (z := (w : Int) + 1) (lv' := [(2, .int (iI ((w : Int) + 1))), (1, .int (iI ((yc F R w) + 1))), (3, .int (iI (wm F (uR R 6 (ym F R w)) (w : Int) 0 0))), (0, .ref (ad 0))]) C dX4_goYear_45 hl rfl rfl (by decide) rfl (fun ls hl => ?_)
          refine lv_goto (tgt := 4) hx hb dX4_goYear_48 (by decide) ?_
          have hl9 : lv_has ls 4 [(2, .int (iI ((w + 1 : Int)))), (1, .int (iI (yc F R (w + 1)))), (0, .ref (ad 0))] := by
            rw [show (yc F R (w + 1) : Int) = (yc F R w) + 1 from by simp only [yc]; first | (rw [if_pos h28]; exact (Int.add_zero _).symm) | rw [if_neg h28]]
            exact lv_sub hl [0, 1, 3] rfl
          exact ih4 (w + 1) (by omega) (by omega) _ _ (by rw [uR_u] at hP; exact hP) hS ls hl9
        · skip
          refine jz_const C dX4_goYear_31 ?_
          refine lv_goto (tgt := 36) hx hb dX4_goYear_32 (by decide) ?_
          refine jz_iadd C dX4_goYear_36 ?_
          refine lv_istore_n (lv' := [(1, .int (iI ((yc F R w) + 0))), (3, .int (iI (wm F (uR R 6 (ym F R w)) (w : Int) 0 0))), (2, .int (iI ((w : Int)))), (0, .ref (ad 0))]) hx hb dX4_goYear_37 rfl hl (by decide) rfl (fun ls hl => ?_)
          refine lv_aload_n hx hb dX4_goYear_38 rfl (lv_at hl 3 rfl) ?_
          refine fg_M_vaneOf C hin4 hE hP (List.mem_of_getElem? (i := 2) rfl) dX4_goYear_39 ?_
          refine lv_iload_n hx hb dX4_goYear_42 rfl (lv_at hl 2 rfl) ?_
          refine lv_iload_n hx hb dX4_goYear_43 rfl (lv_at hl 1 rfl) ?_
          refine fs_M_vaneOf C hE hP (jDM hD) hS dX4_goYear_44 (by omega) (fun H lc hP hS => ?_)
          refine jz_iinc (k := 2) (z := (w : Int) + 1) (lv' := [(2, .int (iI ((w : Int) + 1))), (1, .int (iI ((yc F R w) + 0))), (3, .int (iI (wm F (uR R 6 (ym F R w)) (w : Int) 0 0))), (0, .ref (ad 0))]) C dX4_goYear_45 hl rfl rfl (by decide) rfl (fun ls hl => ?_)
          refine lv_goto (tgt := 4) hx hb dX4_goYear_48 (by decide) ?_
          have hl9 : lv_has ls 4 [(2, .int (iI ((w + 1 : Int)))), (1, .int (iI (yc F R (w + 1)))), (0, .ref (ad 0))] := by
            rw [show (yc F R (w + 1) : Int) = (yc F R w) + 0 from by simp only [yc]; first | (rw [if_pos h28]; exact (Int.add_zero _).symm) | rw [if_neg h28]]
            exact lv_sub hl [0, 1, 3] rfl
          exact ih4 (w + 1) (by omega) (by omega) _ _ (by rw [uR_u] at hP; exact hP) hS ls hl9
  exact key4 (Int.toNat (F 3 - (0 : Int)) + 1) 0 (by omega) (by omega) _ _ (by rw [show ym F R 0 = R 6 from rfl, uR_id]; exact hP) hS ls (lv_sub hl [0, 1, 2] rfl)
