set_option maxHeartbeats 4000000 in
set_option maxRecDepth 100000 in
theorem law_0 {p : Program} {l : Launch} {e : Env} {s : State} {m : MethodId} {below : List Frame} {meth : Method} {c : Code} {cells slots : Nat} {Q : State → Prop} {b L : Nat} {xs : Nat → Int32} {D : va_G} {cI cS : ClassId} {a0 m0 : Nat} (C : CallFix p m c cL_law 4 s #[Value.ref b] wsL_law RL) (hX : va_X b L xs s s.heap) (hbl : b < s.heap.size) (hE : jE D cI cS s) (hT0 : jT (fun q => s.heap.size ≤ q) s s.heap) (hL : L ≤ 3072) (hce : cells ≤ room_1.cells ∧ slots ≤ room_1.slots) {i : Nat} (hi : i + 6 ≤ L) {H : Heap} {locs : List Loc} {ls : Array Slot} (hI : Inv (fun q => s.heap.size ≤ q) D cI cS a0 m0 H) (hS : va_S (fun q => s.heap.size ≤ q) s.heap H locs) (hl : lv_has ls 4 [(3, .int (iI (i : Int))), (2, .ref m0), (1, .ref a0), (0, .ref b)])
    (kk : ∀ (H1 : Heap) (locs1 : List Loc), Inv (fun q => s.heap.size ≤ q) D cI cS a0 m0 H1 → va_S (fun q => s.heap.size ≤ q) s.heap H1 locs1 → W p l e room_1 s m #[Value.ref b] below meth c H1 locs1 cells slots Q (F0 m 1141 ls [])) : W p l e room_1 s m #[Value.ref b] below meth c H locs cells slots Q (F0 m 180 ls []) := by
  obtain ⟨ad, am, I, R, F, R', rfl, rfl, hP, hD, hQ, hDM, hap, hst⟩ := hI
  have hx := C.1
  have hb := C.2.1
  have hbA : ¬ (fun q => s.heap.size ≤ q) b := fun q => absurd hbl (Nat.not_lt.mpr q)
  have hV := hst.vi
  have hM9 := hst.mv
  refine lv_aload_n hx hb dL_law_180 rfl (lv_at hl 2 rfl) ?_
  refine lv_aload_n hx hb dL_law_181 rfl (lv_at hl 3 rfl) ?_
  refine lv_iload_n hx hb dL_law_182 rfl (lv_at hl 0 rfl) ?_
  refine jz_const C dL_law_183 ?_
  refine jz_iadd C dL_law_184 ?_
  refine jl_sld C hX hbl hbA hS (i + 1) (by omega) (by omega) hL dL_law_185 ?_
  have hr1 := iI_rng (xs (i + 1))
  refine lv_aload_n hx hb dL_law_186 rfl (lv_at hl 3 rfl) ?_
  refine lv_iload_n hx hb dL_law_187 rfl (lv_at hl 0 rfl) ?_
  refine jz_const C dL_law_188 ?_
  refine jz_iadd C dL_law_189 ?_
  refine jl_sld C hX hbl hbA hS (i + 2) (by omega) (by omega) hL dL_law_190 ?_
  have hr2 := iI_rng (xs (i + 2))
  refine lv_aload_n hx hb dL_law_191 rfl (lv_at hl 3 rfl) ?_
  refine lv_iload_n hx hb dL_law_192 rfl (lv_at hl 0 rfl) ?_
  refine jz_const C dL_law_193 ?_
  refine jz_iadd C dL_law_194 ?_
  refine jl_sld C hX hbl hbA hS (i + 3) (by omega) (by omega) hL dL_law_195 ?_
  have hr3 := iI_rng (xs (i + 3))
  refine lv_aload_n hx hb dL_law_196 rfl (lv_at hl 3 rfl) ?_
  refine lv_iload_n hx hb dL_law_197 rfl (lv_at hl 0 rfl) ?_
  refine jz_const C dL_law_198 ?_
  refine jz_iadd C dL_law_199 ?_
  refine jl_sld C hX hbl hbA hS (i + 4) (by omega) (by omega) hL dL_law_200 ?_
  have hr4 := iI_rng (xs (i + 4))
  refine jl_V C hl.1 hQ hD hap (jpreVL hE hP hT0 hS (AC.sub hD) 3 0 rfl rfl) (c_X3_town (A := AC _) (AC.own hD) ((xs (i + 1)).toInt) ((xs (i + 2)).toInt) ((xs (i + 3)).toInt) ((xs (i + 4)).toInt) hV hr1 hr2 hr3 hr4) (cwV 4 C.2.2.2.2 gL_law_X3_town rfl rfl rfl (by decide +kernel) ⟨Nat.le_of_ble_eq_true rfl, Nat.le_of_ble_eq_true rfl⟩) (As := [.int (iI (xs (i + 1)).toInt), .int (iI (xs (i + 2)).toInt), .int (iI (xs (i + 3)).toInt), .int (iI (xs (i + 4)).toInt)]) (hn := rfl) (hst := rfl) (rest := []) (hW := Nat.le_of_ble_eq_true rfl) (hdg := dL_law_201) (hf := hce) hS (fun v9 u9 H locs hq9 hG9 hO9 hS => ?_)
  obtain ⟨ad2, I2, R2⟩ := u9
  obtain ⟨hv9, hA9, hI9, hR9⟩ := hq9
  subst hv9
  have hI9 : I2 = (k_X3_town I R ((xs (i + 1)).toInt) ((xs (i + 2)).toInt) ((xs (i + 3)).toInt) ((xs (i + 4)).toInt)).2.1 := hI9
  have hQ := hO9
  have hP : va_P D vwCl (wC cI cS ad2 I2 R2) H := hG9
  have had : ad2 0 = ad 0 := by
    rcases hA9 with h9 | h9
    · rw [show ad2 = ad from h9]
    · rw [show ad2 = sw ad from h9]; rfl
  have hap : Apt (wC cI cS ad2 I2 R2) (wM cI am F R') := by
    rcases hA9 with h9 | h9
    · rw [show ad2 = ad from h9]; exact Apt_C hap
    · rw [show ad2 = sw ad from h9]; exact Apt_sw hap
  have hD : va_D (fun q => s.heap.size ≤ q) (wC cI cS ad2 I2 R2) := by
    rcases hA9 with h9 | h9
    · rw [show ad2 = ad from h9]; exact jDC hD
    · rw [show ad2 = sw ad from h9]; exact jD_sw hD
  refine lv_aload_n hx hb dL_law_204 rfl (lv_at hl 1 rfl) ?_
  refine lv_aload_n hx hb dL_law_205 rfl (lv_at hl 3 rfl) ?_
  refine lv_iload_n hx hb dL_law_206 rfl (lv_at hl 0 rfl) ?_
  refine jz_const C dL_law_207 ?_
  refine jz_iadd C dL_law_208 ?_
  refine jl_sld C hX hbl hbA hS (i + 1) (by omega) (by omega) hL dL_law_209 ?_
  refine lv_aload_n hx hb dL_law_210 rfl (lv_at hl 3 rfl) ?_
  refine lv_iload_n hx hb dL_law_211 rfl (lv_at hl 0 rfl) ?_
  refine jz_const C dL_law_212 ?_
  refine jz_iadd C dL_law_213 ?_
  refine jl_sld C hX hbl hbA hS (i + 2) (by omega) (by omega) hL dL_law_214 ?_
  refine lv_aload_n hx hb dL_law_215 rfl (lv_at hl 3 rfl) ?_
  refine lv_iload_n hx hb dL_law_216 rfl (lv_at hl 0 rfl) ?_
  refine jz_const C dL_law_217 ?_
  refine jz_iadd C dL_law_218 ?_
  refine jl_sld C hX hbl hbA hS (i + 3) (by omega) (by omega) hL dL_law_219 ?_
  refine lv_aload_n hx hb dL_law_220 rfl (lv_at hl 3 rfl) ?_
  refine lv_iload_n hx hb dL_law_221 rfl (lv_at hl 0 rfl) ?_
  refine jz_const C dL_law_222 ?_
  refine jz_iadd C dL_law_223 ?_
  refine jl_sld C hX hbl hbA hS (i + 4) (by omega) (by omega) hL dL_law_224 ?_
  refine jl_V C hl.1 hP hDM hap.symm (jpreV hE hQ 4 0 rfl rfl) (c_X4_town (A := AC _) (AC.own hDM) ((xs (i + 1)).toInt) ((xs (i + 2)).toInt) ((xs (i + 3)).toInt) ((xs (i + 4)).toInt) hM9 hr1 hr2 hr3 hr4) (cwV 4 C.2.2.2.2 gL_law_X4_town rfl rfl rfl (by decide +kernel) ⟨Nat.le_of_ble_eq_true rfl, Nat.le_of_ble_eq_true rfl⟩) (As := [.int (iI (xs (i + 1)).toInt), .int (iI (xs (i + 2)).toInt), .int (iI (xs (i + 3)).toInt), .int (iI (xs (i + 4)).toInt)]) (hn := rfl) (hst := rfl) (rest := [.int (iI ((k_X3_town I R ((xs (i + 1)).toInt) ((xs (i + 2)).toInt) ((xs (i + 3)).toInt) ((xs (i + 4)).toInt)).1))]) (hW := Nat.le_of_ble_eq_true rfl) (hdg := dL_law_225) (hf := hce) hS (fun v9 u9 H locs hq9 hG9 hO9 hS => ?_)
  obtain ⟨F2, R2'⟩ := u9
  obtain ⟨hv9, hF9, hM9r⟩ := hq9
  subst hv9
  have hF9 : F2 = (k_X4_town F R' ((xs (i + 1)).toInt) ((xs (i + 2)).toInt) ((xs (i + 3)).toInt) ((xs (i + 4)).toInt)).2.1 := hF9
  have hQ : va_P D vwCl (wM cI am F2 R2') H := hG9
  have hP := hO9
  have heqs := (eq_town hst ((xs (i + 1)).toInt) ((xs (i + 2)).toInt) ((xs (i + 3)).toInt) ((xs (i + 4)).toInt))
  have heq : ((k_X3_town I R ((xs (i + 1)).toInt) ((xs (i + 2)).toInt) ((xs (i + 3)).toInt) ((xs (i + 4)).toInt)).1 : Int) = (k_X4_town F R' ((xs (i + 1)).toInt) ((xs (i + 2)).toInt) ((xs (i + 3)).toInt) ((xs (i + 4)).toInt)).1 := heqs.1
  have hst1 := heqs.2
  have hst2 : St I2 R2 F2 R2' := by
    rw [hI9]
    rw [hF9]
    rw [show R2' = (k_X4_town F R' ((xs (i + 1)).toInt) ((xs (i + 2)).toInt) ((xs (i + 3)).toInt) ((xs (i + 4)).toInt)).2.2 from hM9r]
    exact (hst1.jq hR9)
  exact lv_icmp_eq (tgt := 1141) hx hb dL_law_228 (by decide) (fun _ => kk _ _ ⟨ad2, am, I2, R2, F2, R2', had, rfl, hP, hD, hQ, jDM hDM, Apt_M hap, hst2⟩ hS) (fun hne => absurd (congrArg iI heq) hne)
set_option maxHeartbeats 4000000 in
set_option maxRecDepth 100000 in
theorem law_1 {p : Program} {l : Launch} {e : Env} {s : State} {m : MethodId} {below : List Frame} {meth : Method} {c : Code} {cells slots : Nat} {Q : State → Prop} {b L : Nat} {xs : Nat → Int32} {D : va_G} {cI cS : ClassId} {a0 m0 : Nat} (C : CallFix p m c cL_law 4 s #[Value.ref b] wsL_law RL) (hX : va_X b L xs s s.heap) (hbl : b < s.heap.size) (hE : jE D cI cS s) (hT0 : jT (fun q => s.heap.size ≤ q) s s.heap) (hL : L ≤ 3072) (hce : cells ≤ room_1.cells ∧ slots ≤ room_1.slots) {i : Nat} (hi : i + 6 ≤ L) {H : Heap} {locs : List Loc} {ls : Array Slot} (hI : Inv (fun q => s.heap.size ≤ q) D cI cS a0 m0 H) (hS : va_S (fun q => s.heap.size ≤ q) s.heap H locs) (hl : lv_has ls 4 [(3, .int (iI (i : Int))), (2, .ref m0), (1, .ref a0), (0, .ref b)])
    (kk : ∀ (H1 : Heap) (locs1 : List Loc), Inv (fun q => s.heap.size ≤ q) D cI cS a0 m0 H1 → va_S (fun q => s.heap.size ≤ q) s.heap H1 locs1 → W p l e room_1 s m #[Value.ref b] below meth c H1 locs1 cells slots Q (F0 m 1141 ls [])) : W p l e room_1 s m #[Value.ref b] below meth c H locs cells slots Q (F0 m 233 ls []) := by
  obtain ⟨ad, am, I, R, F, R', rfl, rfl, hP, hD, hQ, hDM, hap, hst⟩ := hI
  have hx := C.1
  have hb := C.2.1
  have hbA : ¬ (fun q => s.heap.size ≤ q) b := fun q => absurd hbl (Nat.not_lt.mpr q)
  have hV := hst.vi
  have hM9 := hst.mv
  refine lv_aload_n hx hb dL_law_233 rfl (lv_at hl 2 rfl) ?_
  refine lv_aload_n hx hb dL_law_234 rfl (lv_at hl 3 rfl) ?_
  refine lv_iload_n hx hb dL_law_235 rfl (lv_at hl 0 rfl) ?_
  refine jz_const C dL_law_236 ?_
  refine jz_iadd C dL_law_237 ?_
  refine jl_sld C hX hbl hbA hS (i + 1) (by omega) (by omega) hL dL_law_238 ?_
  have hr1 := iI_rng (xs (i + 1))
  refine lv_aload_n hx hb dL_law_239 rfl (lv_at hl 3 rfl) ?_
  refine lv_iload_n hx hb dL_law_240 rfl (lv_at hl 0 rfl) ?_
  refine jz_const C dL_law_241 ?_
  refine jz_iadd C dL_law_242 ?_
  refine jl_sld C hX hbl hbA hS (i + 2) (by omega) (by omega) hL dL_law_243 ?_
  have hr2 := iI_rng (xs (i + 2))
  refine jc_V C hl.1 (jpreV hE hP 3 0 rfl rfl) (c_X3_ofWard ((xs (i + 1)).toInt) ((xs (i + 2)).toInt) hV hr1 hr2) (cwV 2 C.2.2.2.2 gL_law_X3_ofWard rfl rfl rfl (by decide +kernel) ⟨Nat.le_of_ble_eq_true rfl, Nat.le_of_ble_eq_true rfl⟩) (As := [.int (iI (xs (i + 1)).toInt), .int (iI (xs (i + 2)).toInt)]) (v := .int (iI (k_X3_ofWard I R ((xs (i + 1)).toInt) ((xs (i + 2)).toInt)))) (hn := rfl) (hst := rfl) (rest := []) (hW := Nat.le_of_ble_eq_true rfl) (hdg := dL_law_244) (hf := hce) ?_
  refine lv_aload_n hx hb dL_law_247 rfl (lv_at hl 1 rfl) ?_
  refine lv_aload_n hx hb dL_law_248 rfl (lv_at hl 3 rfl) ?_
  refine lv_iload_n hx hb dL_law_249 rfl (lv_at hl 0 rfl) ?_
  refine jz_const C dL_law_250 ?_
  refine jz_iadd C dL_law_251 ?_
  refine jl_sld C hX hbl hbA hS (i + 1) (by omega) (by omega) hL dL_law_252 ?_
  refine lv_aload_n hx hb dL_law_253 rfl (lv_at hl 3 rfl) ?_
  refine lv_iload_n hx hb dL_law_254 rfl (lv_at hl 0 rfl) ?_
  refine jz_const C dL_law_255 ?_
  refine jz_iadd C dL_law_256 ?_
  refine jl_sld C hX hbl hbA hS (i + 2) (by omega) (by omega) hL dL_law_257 ?_
  refine jc_V C hl.1 (jpreV hE hQ 4 0 rfl rfl) (c_X4_ofWard ((xs (i + 1)).toInt) ((xs (i + 2)).toInt) hM9 hr1 hr2) (cwV 2 C.2.2.2.2 gL_law_X4_ofWard rfl rfl rfl (by decide +kernel) ⟨Nat.le_of_ble_eq_true rfl, Nat.le_of_ble_eq_true rfl⟩) (As := [.int (iI (xs (i + 1)).toInt), .int (iI (xs (i + 2)).toInt)]) (v := .int (iI (k_X4_ofWard F R' ((xs (i + 1)).toInt) ((xs (i + 2)).toInt)))) (hn := rfl) (hst := rfl) (rest := [.int (iI (k_X3_ofWard I R ((xs (i + 1)).toInt) ((xs (i + 2)).toInt)))]) (hW := Nat.le_of_ble_eq_true rfl) (hdg := dL_law_258) (hf := hce) ?_
  have heq : (k_X3_ofWard I R ((xs (i + 1)).toInt) ((xs (i + 2)).toInt) : Int) = k_X4_ofWard F R' ((xs (i + 1)).toInt) ((xs (i + 2)).toInt) := (eq_ofWard hst ((xs (i + 1)).toInt) ((xs (i + 2)).toInt))
  have hst2 := hst
  exact lv_icmp_eq (tgt := 1141) hx hb dL_law_261 (by decide) (fun _ => kk _ _ ⟨ad, am, I, R, F, R', rfl, rfl, hP, hD, hQ, jDM hDM, Apt_M hap, hst2⟩ hS) (fun hne => absurd (congrArg iI heq) hne)
set_option maxHeartbeats 4000000 in
set_option maxRecDepth 100000 in
theorem law_2 {p : Program} {l : Launch} {e : Env} {s : State} {m : MethodId} {below : List Frame} {meth : Method} {c : Code} {cells slots : Nat} {Q : State → Prop} {b L : Nat} {xs : Nat → Int32} {D : va_G} {cI cS : ClassId} {a0 m0 : Nat} (C : CallFix p m c cL_law 4 s #[Value.ref b] wsL_law RL) (hX : va_X b L xs s s.heap) (hbl : b < s.heap.size) (hE : jE D cI cS s) (hT0 : jT (fun q => s.heap.size ≤ q) s s.heap) (hL : L ≤ 3072) (hce : cells ≤ room_1.cells ∧ slots ≤ room_1.slots) {i : Nat} (hi : i + 6 ≤ L) {H : Heap} {locs : List Loc} {ls : Array Slot} (hI : Inv (fun q => s.heap.size ≤ q) D cI cS a0 m0 H) (hS : va_S (fun q => s.heap.size ≤ q) s.heap H locs) (hl : lv_has ls 4 [(3, .int (iI (i : Int))), (2, .ref m0), (1, .ref a0), (0, .ref b)])
    (kk : ∀ (H1 : Heap) (locs1 : List Loc), Inv (fun q => s.heap.size ≤ q) D cI cS a0 m0 H1 → va_S (fun q => s.heap.size ≤ q) s.heap H1 locs1 → W p l e room_1 s m #[Value.ref b] below meth c H1 locs1 cells slots Q (F0 m 1141 ls [])) : W p l e room_1 s m #[Value.ref b] below meth c H locs cells slots Q (F0 m 266 ls []) := by
  obtain ⟨ad, am, I, R, F, R', rfl, rfl, hP, hD, hQ, hDM, hap, hst⟩ := hI
  have hx := C.1
  have hb := C.2.1
  have hbA : ¬ (fun q => s.heap.size ≤ q) b := fun q => absurd hbl (Nat.not_lt.mpr q)
  have hV := hst.vi
  have hM9 := hst.mv
  refine lv_aload_n hx hb dL_law_266 rfl (lv_at hl 2 rfl) ?_
  refine lv_aload_n hx hb dL_law_267 rfl (lv_at hl 3 rfl) ?_
  refine lv_iload_n hx hb dL_law_268 rfl (lv_at hl 0 rfl) ?_
  refine jz_const C dL_law_269 ?_
  refine jz_iadd C dL_law_270 ?_
  refine jl_sld C hX hbl hbA hS (i + 1) (by omega) (by omega) hL dL_law_271 ?_
  have hr1 := iI_rng (xs (i + 1))
  refine lv_aload_n hx hb dL_law_272 rfl (lv_at hl 3 rfl) ?_
  refine lv_iload_n hx hb dL_law_273 rfl (lv_at hl 0 rfl) ?_
  refine jz_const C dL_law_274 ?_
  refine jz_iadd C dL_law_275 ?_
  refine jl_sld C hX hbl hbA hS (i + 2) (by omega) (by omega) hL dL_law_276 ?_
  have hr2 := iI_rng (xs (i + 2))
  refine jc_V C hl.1 (jpreV hE hP 3 0 rfl rfl) (c_X3_ofWork ((xs (i + 1)).toInt) ((xs (i + 2)).toInt) hV hr1 hr2) (cwV 2 C.2.2.2.2 gL_law_X3_ofWork rfl rfl rfl (by decide +kernel) ⟨Nat.le_of_ble_eq_true rfl, Nat.le_of_ble_eq_true rfl⟩) (As := [.int (iI (xs (i + 1)).toInt), .int (iI (xs (i + 2)).toInt)]) (v := .int (iI (k_X3_ofWork I R ((xs (i + 1)).toInt) ((xs (i + 2)).toInt)))) (hn := rfl) (hst := rfl) (rest := []) (hW := Nat.le_of_ble_eq_true rfl) (hdg := dL_law_277) (hf := hce) ?_
  refine lv_aload_n hx hb dL_law_280 rfl (lv_at hl 1 rfl) ?_
  refine lv_aload_n hx hb dL_law_281 rfl (lv_at hl 3 rfl) ?_
  refine lv_iload_n hx hb dL_law_282 rfl (lv_at hl 0 rfl) ?_
  refine jz_const C dL_law_283 ?_
  refine jz_iadd C dL_law_284 ?_
  refine jl_sld C hX hbl hbA hS (i + 1) (by omega) (by omega) hL dL_law_285 ?_
  refine lv_aload_n hx hb dL_law_286 rfl (lv_at hl 3 rfl) ?_
  refine lv_iload_n hx hb dL_law_287 rfl (lv_at hl 0 rfl) ?_
  refine jz_const C dL_law_288 ?_
  refine jz_iadd C dL_law_289 ?_
  refine jl_sld C hX hbl hbA hS (i + 2) (by omega) (by omega) hL dL_law_290 ?_
  refine jc_V C hl.1 (jpreV hE hQ 4 0 rfl rfl) (c_X4_ofWork ((xs (i + 1)).toInt) ((xs (i + 2)).toInt) hM9 hr1 hr2) (cwV 2 C.2.2.2.2 gL_law_X4_ofWork rfl rfl rfl (by decide +kernel) ⟨Nat.le_of_ble_eq_true rfl, Nat.le_of_ble_eq_true rfl⟩) (As := [.int (iI (xs (i + 1)).toInt), .int (iI (xs (i + 2)).toInt)]) (v := .int (iI (k_X4_ofWork F R' ((xs (i + 1)).toInt) ((xs (i + 2)).toInt)))) (hn := rfl) (hst := rfl) (rest := [.int (iI (k_X3_ofWork I R ((xs (i + 1)).toInt) ((xs (i + 2)).toInt)))]) (hW := Nat.le_of_ble_eq_true rfl) (hdg := dL_law_291) (hf := hce) ?_
  have heq : (k_X3_ofWork I R ((xs (i + 1)).toInt) ((xs (i + 2)).toInt) : Int) = k_X4_ofWork F R' ((xs (i + 1)).toInt) ((xs (i + 2)).toInt) := (eq_ofWork hst ((xs (i + 1)).toInt) ((xs (i + 2)).toInt))
  have hst2 := hst
  exact lv_icmp_eq (tgt := 1141) hx hb dL_law_294 (by decide) (fun _ => kk _ _ ⟨ad, am, I, R, F, R', rfl, rfl, hP, hD, hQ, jDM hDM, Apt_M hap, hst2⟩ hS) (fun hne => absurd (congrArg iI heq) hne)
set_option maxHeartbeats 4000000 in
set_option maxRecDepth 100000 in
theorem law_3 {p : Program} {l : Launch} {e : Env} {s : State} {m : MethodId} {below : List Frame} {meth : Method} {c : Code} {cells slots : Nat} {Q : State → Prop} {b L : Nat} {xs : Nat → Int32} {D : va_G} {cI cS : ClassId} {a0 m0 : Nat} (C : CallFix p m c cL_law 4 s #[Value.ref b] wsL_law RL) (hX : va_X b L xs s s.heap) (hbl : b < s.heap.size) (hE : jE D cI cS s) (hT0 : jT (fun q => s.heap.size ≤ q) s s.heap) (hL : L ≤ 3072) (hce : cells ≤ room_1.cells ∧ slots ≤ room_1.slots) {i : Nat} (hi : i + 6 ≤ L) {H : Heap} {locs : List Loc} {ls : Array Slot} (hI : Inv (fun q => s.heap.size ≤ q) D cI cS a0 m0 H) (hS : va_S (fun q => s.heap.size ≤ q) s.heap H locs) (hl : lv_has ls 4 [(3, .int (iI (i : Int))), (2, .ref m0), (1, .ref a0), (0, .ref b)])
    (kk : ∀ (H1 : Heap) (locs1 : List Loc), Inv (fun q => s.heap.size ≤ q) D cI cS a0 m0 H1 → va_S (fun q => s.heap.size ≤ q) s.heap H1 locs1 → W p l e room_1 s m #[Value.ref b] below meth c H1 locs1 cells slots Q (F0 m 1141 ls [])) : W p l e room_1 s m #[Value.ref b] below meth c H locs cells slots Q (F0 m 299 ls []) := by
  obtain ⟨ad, am, I, R, F, R', rfl, rfl, hP, hD, hQ, hDM, hap, hst⟩ := hI
  have hx := C.1
  have hb := C.2.1
  have hbA : ¬ (fun q => s.heap.size ≤ q) b := fun q => absurd hbl (Nat.not_lt.mpr q)
  have hV := hst.vi
  have hM9 := hst.mv
  refine lv_aload_n hx hb dL_law_299 rfl (lv_at hl 2 rfl) ?_
  refine lv_aload_n hx hb dL_law_300 rfl (lv_at hl 3 rfl) ?_
  refine lv_iload_n hx hb dL_law_301 rfl (lv_at hl 0 rfl) ?_
  refine jz_const C dL_law_302 ?_
  refine jz_iadd C dL_law_303 ?_
  refine jl_sld C hX hbl hbA hS (i + 1) (by omega) (by omega) hL dL_law_304 ?_
  have hr1 := iI_rng (xs (i + 1))
  refine jl_V C hl.1 hQ hD hap (jpreV hE hP 3 0 rfl rfl) (c_X3_law (A := AC _) (AC.own hD) ((xs (i + 1)).toInt) hV hr1) (cwV 1 C.2.2.2.2 gL_law_X3_law rfl rfl rfl (by decide +kernel) ⟨Nat.le_of_ble_eq_true rfl, Nat.le_of_ble_eq_true rfl⟩) (As := [.int (iI (xs (i + 1)).toInt)]) (hn := rfl) (hst := rfl) (rest := []) (hW := Nat.le_of_ble_eq_true rfl) (hdg := dL_law_305) (hf := hce) hS (fun v9 u9 H locs hq9 hG9 hO9 hS => ?_)
  obtain ⟨I2, R2⟩ := u9
  obtain ⟨hv9, hI9, hR9⟩ := hq9
  subst hv9
  have hI9 : I2 = (k_X3_law I R ((xs (i + 1)).toInt)).2.1 := hI9
  have hQ := hO9
  have hP : va_P D vwCl (wC cI cS ad I2 R2) H := hG9
  have hap : Apt (wC cI cS ad I2 R2) (wM cI am F R') := Apt_C hap
  have hD : va_D (fun q => s.heap.size ≤ q) (wC cI cS ad I2 R2) := jDC hD
  refine lv_aload_n hx hb dL_law_308 rfl (lv_at hl 1 rfl) ?_
  refine lv_aload_n hx hb dL_law_309 rfl (lv_at hl 3 rfl) ?_
  refine lv_iload_n hx hb dL_law_310 rfl (lv_at hl 0 rfl) ?_
  refine jz_const C dL_law_311 ?_
  refine jz_iadd C dL_law_312 ?_
  refine jl_sld C hX hbl hbA hS (i + 1) (by omega) (by omega) hL dL_law_313 ?_
  refine jl_V C hl.1 hP hDM hap.symm (jpreV hE hQ 4 0 rfl rfl) (c_X4_law (A := AC _) (AC.own hDM) ((xs (i + 1)).toInt) hM9 hr1) (cwV 1 C.2.2.2.2 gL_law_X4_law rfl rfl rfl (by decide +kernel) ⟨Nat.le_of_ble_eq_true rfl, Nat.le_of_ble_eq_true rfl⟩) (As := [.int (iI (xs (i + 1)).toInt)]) (hn := rfl) (hst := rfl) (rest := [.int (iI ((k_X3_law I R ((xs (i + 1)).toInt)).1))]) (hW := Nat.le_of_ble_eq_true rfl) (hdg := dL_law_314) (hf := hce) hS (fun v9 u9 H locs hq9 hG9 hO9 hS => ?_)
  obtain ⟨F2, R2'⟩ := u9
  obtain ⟨hv9, hF9, hM9r⟩ := hq9
  subst hv9
  have hF9 : F2 = (k_X4_law F R' ((xs (i + 1)).toInt)).2.1 := hF9
  have hQ : va_P D vwCl (wM cI am F2 R2') H := hG9
  have hP := hO9
  have heqs := (eq_law hst ((xs (i + 1)).toInt))
  have heq : ((k_X3_law I R ((xs (i + 1)).toInt)).1 : Int) = (k_X4_law F R' ((xs (i + 1)).toInt)).1 := heqs.1
  have hst1 := heqs.2
  have hst2 : St I2 R2 F2 R2' := by
    rw [hI9]
    rw [hF9]
    rw [show R2' = (k_X4_law F R' ((xs (i + 1)).toInt)).2.2 from hM9r]
    exact (hst1.jq hR9)
  exact lv_icmp_eq (tgt := 1141) hx hb dL_law_317 (by decide) (fun _ => kk _ _ ⟨ad, am, I2, R2, F2, R2', rfl, rfl, hP, hD, hQ, jDM hDM, Apt_M hap, hst2⟩ hS) (fun hne => absurd (congrArg iI heq) hne)
set_option maxHeartbeats 4000000 in
set_option maxRecDepth 100000 in
theorem law_4 {p : Program} {l : Launch} {e : Env} {s : State} {m : MethodId} {below : List Frame} {meth : Method} {c : Code} {cells slots : Nat} {Q : State → Prop} {b L : Nat} {xs : Nat → Int32} {D : va_G} {cI cS : ClassId} {a0 m0 : Nat} (C : CallFix p m c cL_law 4 s #[Value.ref b] wsL_law RL) (hX : va_X b L xs s s.heap) (hbl : b < s.heap.size) (hE : jE D cI cS s) (hT0 : jT (fun q => s.heap.size ≤ q) s s.heap) (hL : L ≤ 3072) (hce : cells ≤ room_1.cells ∧ slots ≤ room_1.slots) {i : Nat} (hi : i + 6 ≤ L) {H : Heap} {locs : List Loc} {ls : Array Slot} (hI : Inv (fun q => s.heap.size ≤ q) D cI cS a0 m0 H) (hS : va_S (fun q => s.heap.size ≤ q) s.heap H locs) (hl : lv_has ls 4 [(3, .int (iI (i : Int))), (2, .ref m0), (1, .ref a0), (0, .ref b)])
    (kk : ∀ (H1 : Heap) (locs1 : List Loc), Inv (fun q => s.heap.size ≤ q) D cI cS a0 m0 H1 → va_S (fun q => s.heap.size ≤ q) s.heap H1 locs1 → W p l e room_1 s m #[Value.ref b] below meth c H1 locs1 cells slots Q (F0 m 1141 ls [])) : W p l e room_1 s m #[Value.ref b] below meth c H locs cells slots Q (F0 m 322 ls []) := by
  obtain ⟨ad, am, I, R, F, R', rfl, rfl, hP, hD, hQ, hDM, hap, hst⟩ := hI
  have hx := C.1
  have hb := C.2.1
  have hbA : ¬ (fun q => s.heap.size ≤ q) b := fun q => absurd hbl (Nat.not_lt.mpr q)
  have hV := hst.vi
  have hM9 := hst.mv
  refine lv_aload_n hx hb dL_law_322 rfl (lv_at hl 2 rfl) ?_
  refine lv_aload_n hx hb dL_law_323 rfl (lv_at hl 3 rfl) ?_
  refine lv_iload_n hx hb dL_law_324 rfl (lv_at hl 0 rfl) ?_
  refine jz_const C dL_law_325 ?_
  refine jz_iadd C dL_law_326 ?_
  refine jl_sld C hX hbl hbA hS (i + 1) (by omega) (by omega) hL dL_law_327 ?_
  have hr1 := iI_rng (xs (i + 1))
  refine lv_aload_n hx hb dL_law_328 rfl (lv_at hl 3 rfl) ?_
  refine lv_iload_n hx hb dL_law_329 rfl (lv_at hl 0 rfl) ?_
  refine jz_const C dL_law_330 ?_
  refine jz_iadd C dL_law_331 ?_
  refine jl_sld C hX hbl hbA hS (i + 2) (by omega) (by omega) hL dL_law_332 ?_
  have hr2 := iI_rng (xs (i + 2))
  refine jl_V C hl.1 hQ hD hap (jpreV hE hP 3 0 rfl rfl) (c_X3_turn (A := AC _) (AC.own hD) ((xs (i + 1)).toInt) ((xs (i + 2)).toInt) hV hr1 hr2) (cwV 2 C.2.2.2.2 gL_law_X3_turn rfl rfl rfl (by decide +kernel) ⟨Nat.le_of_ble_eq_true rfl, Nat.le_of_ble_eq_true rfl⟩) (As := [.int (iI (xs (i + 1)).toInt), .int (iI (xs (i + 2)).toInt)]) (hn := rfl) (hst := rfl) (rest := []) (hW := Nat.le_of_ble_eq_true rfl) (hdg := dL_law_333) (hf := hce) hS (fun v9 u9 H locs hq9 hG9 hO9 hS => ?_)
  obtain ⟨I2, R2⟩ := u9
  obtain ⟨hv9, hI9, hR9⟩ := hq9
  subst hv9
  have hI9 : I2 = (k_X3_turn I R ((xs (i + 1)).toInt) ((xs (i + 2)).toInt)).2.1 := hI9
  have hQ := hO9
  have hP : va_P D vwCl (wC cI cS ad I2 R2) H := hG9
  have hap : Apt (wC cI cS ad I2 R2) (wM cI am F R') := Apt_C hap
  have hD : va_D (fun q => s.heap.size ≤ q) (wC cI cS ad I2 R2) := jDC hD
  refine lv_aload_n hx hb dL_law_336 rfl (lv_at hl 1 rfl) ?_
  refine lv_aload_n hx hb dL_law_337 rfl (lv_at hl 3 rfl) ?_
  refine lv_iload_n hx hb dL_law_338 rfl (lv_at hl 0 rfl) ?_
  refine jz_const C dL_law_339 ?_
  refine jz_iadd C dL_law_340 ?_
  refine jl_sld C hX hbl hbA hS (i + 1) (by omega) (by omega) hL dL_law_341 ?_
  refine lv_aload_n hx hb dL_law_342 rfl (lv_at hl 3 rfl) ?_
  refine lv_iload_n hx hb dL_law_343 rfl (lv_at hl 0 rfl) ?_
  refine jz_const C dL_law_344 ?_
  refine jz_iadd C dL_law_345 ?_
  refine jl_sld C hX hbl hbA hS (i + 2) (by omega) (by omega) hL dL_law_346 ?_
  refine jl_V C hl.1 hP hDM hap.symm (jpreV hE hQ 4 0 rfl rfl) (c_X4_turn (A := AC _) (AC.own hDM) ((xs (i + 1)).toInt) ((xs (i + 2)).toInt) hM9 hr1 hr2) (cwV 2 C.2.2.2.2 gL_law_X4_turn rfl rfl rfl (by decide +kernel) ⟨Nat.le_of_ble_eq_true rfl, Nat.le_of_ble_eq_true rfl⟩) (As := [.int (iI (xs (i + 1)).toInt), .int (iI (xs (i + 2)).toInt)]) (hn := rfl) (hst := rfl) (rest := [.int (iI ((k_X3_turn I R ((xs (i + 1)).toInt) ((xs (i + 2)).toInt)).1))]) (hW := Nat.le_of_ble_eq_true rfl) (hdg := dL_law_347) (hf := hce) hS (fun v9 u9 H locs hq9 hG9 hO9 hS => ?_)
  obtain ⟨F2, R2'⟩ := u9
  obtain ⟨hv9, hF9, hM9r⟩ := hq9
  subst hv9
  have hF9 : F2 = (k_X4_turn F R' ((xs (i + 1)).toInt) ((xs (i + 2)).toInt)).2.1 := hF9
  have hQ : va_P D vwCl (wM cI am F2 R2') H := hG9
  have hP := hO9
  have heqs := (eq_turn hst ((xs (i + 1)).toInt) ((xs (i + 2)).toInt))
  have heq : ((k_X3_turn I R ((xs (i + 1)).toInt) ((xs (i + 2)).toInt)).1 : Int) = (k_X4_turn F R' ((xs (i + 1)).toInt) ((xs (i + 2)).toInt)).1 := heqs.1
  have hst1 := heqs.2
  have hst2 : St I2 R2 F2 R2' := by
    rw [hI9]
    rw [hF9]
    rw [show R2' = (k_X4_turn F R' ((xs (i + 1)).toInt) ((xs (i + 2)).toInt)).2.2 from hM9r]
    exact (hst1.jq hR9)
  exact lv_icmp_eq (tgt := 1141) hx hb dL_law_350 (by decide) (fun _ => kk _ _ ⟨ad, am, I2, R2, F2, R2', rfl, rfl, hP, hD, hQ, jDM hDM, Apt_M hap, hst2⟩ hS) (fun hne => absurd (congrArg iI heq) hne)
set_option maxHeartbeats 4000000 in
set_option maxRecDepth 100000 in
theorem law_5 {p : Program} {l : Launch} {e : Env} {s : State} {m : MethodId} {below : List Frame} {meth : Method} {c : Code} {cells slots : Nat} {Q : State → Prop} {b L : Nat} {xs : Nat → Int32} {D : va_G} {cI cS : ClassId} {a0 m0 : Nat} (C : CallFix p m c cL_law 4 s #[Value.ref b] wsL_law RL) (hX : va_X b L xs s s.heap) (hbl : b < s.heap.size) (hE : jE D cI cS s) (hT0 : jT (fun q => s.heap.size ≤ q) s s.heap) (hL : L ≤ 3072) (hce : cells ≤ room_1.cells ∧ slots ≤ room_1.slots) {i : Nat} (hi : i + 6 ≤ L) {H : Heap} {locs : List Loc} {ls : Array Slot} (hI : Inv (fun q => s.heap.size ≤ q) D cI cS a0 m0 H) (hS : va_S (fun q => s.heap.size ≤ q) s.heap H locs) (hl : lv_has ls 4 [(3, .int (iI (i : Int))), (2, .ref m0), (1, .ref a0), (0, .ref b)])
    (kk : ∀ (H1 : Heap) (locs1 : List Loc), Inv (fun q => s.heap.size ≤ q) D cI cS a0 m0 H1 → va_S (fun q => s.heap.size ≤ q) s.heap H1 locs1 → W p l e room_1 s m #[Value.ref b] below meth c H1 locs1 cells slots Q (F0 m 1141 ls [])) : W p l e room_1 s m #[Value.ref b] below meth c H locs cells slots Q (F0 m 355 ls []) := by
  obtain ⟨ad, am, I, R, F, R', rfl, rfl, hP, hD, hQ, hDM, hap, hst⟩ := hI
  have hx := C.1
  have hb := C.2.1
  have hbA : ¬ (fun q => s.heap.size ≤ q) b := fun q => absurd hbl (Nat.not_lt.mpr q)
  have hV := hst.vi
  have hM9 := hst.mv
  refine lv_aload_n hx hb dL_law_355 rfl (lv_at hl 2 rfl) ?_
  refine lv_aload_n hx hb dL_law_356 rfl (lv_at hl 3 rfl) ?_
  refine lv_iload_n hx hb dL_law_357 rfl (lv_at hl 0 rfl) ?_
  refine jz_const C dL_law_358 ?_
  refine jz_iadd C dL_law_359 ?_
  refine jl_sld C hX hbl hbA hS (i + 1) (by omega) (by omega) hL dL_law_360 ?_
  have hr1 := iI_rng (xs (i + 1))
  refine jc_V C hl.1 (jpreV hE hP 3 0 rfl rfl) (c_X3_smell ((xs (i + 1)).toInt) hV hr1) (cwV 1 C.2.2.2.2 gL_law_X3_smell rfl rfl rfl (by decide +kernel) ⟨Nat.le_of_ble_eq_true rfl, Nat.le_of_ble_eq_true rfl⟩) (As := [.int (iI (xs (i + 1)).toInt)]) (v := .int (iI (k_X3_smell I R ((xs (i + 1)).toInt)))) (hn := rfl) (hst := rfl) (rest := []) (hW := Nat.le_of_ble_eq_true rfl) (hdg := dL_law_361) (hf := hce) ?_
  refine lv_aload_n hx hb dL_law_364 rfl (lv_at hl 1 rfl) ?_
  refine lv_aload_n hx hb dL_law_365 rfl (lv_at hl 3 rfl) ?_
  refine lv_iload_n hx hb dL_law_366 rfl (lv_at hl 0 rfl) ?_
  refine jz_const C dL_law_367 ?_
  refine jz_iadd C dL_law_368 ?_
  refine jl_sld C hX hbl hbA hS (i + 1) (by omega) (by omega) hL dL_law_369 ?_
  refine jc_V C hl.1 (jpreV hE hQ 4 0 rfl rfl) (c_X4_smell ((xs (i + 1)).toInt) hM9 hr1) (cwV 1 C.2.2.2.2 gL_law_X4_smell rfl rfl rfl (by decide +kernel) ⟨Nat.le_of_ble_eq_true rfl, Nat.le_of_ble_eq_true rfl⟩) (As := [.int (iI (xs (i + 1)).toInt)]) (v := .int (iI (k_X4_smell F R' ((xs (i + 1)).toInt)))) (hn := rfl) (hst := rfl) (rest := [.int (iI (k_X3_smell I R ((xs (i + 1)).toInt)))]) (hW := Nat.le_of_ble_eq_true rfl) (hdg := dL_law_370) (hf := hce) ?_
  have heq : (k_X3_smell I R ((xs (i + 1)).toInt) : Int) = k_X4_smell F R' ((xs (i + 1)).toInt) := (eq_smell hst ((xs (i + 1)).toInt))
  have hst2 := hst
  exact lv_icmp_eq (tgt := 1141) hx hb dL_law_373 (by decide) (fun _ => kk _ _ ⟨ad, am, I, R, F, R', rfl, rfl, hP, hD, hQ, jDM hDM, Apt_M hap, hst2⟩ hS) (fun hne => absurd (congrArg iI heq) hne)
set_option maxHeartbeats 4000000 in
set_option maxRecDepth 100000 in
theorem law_6 {p : Program} {l : Launch} {e : Env} {s : State} {m : MethodId} {below : List Frame} {meth : Method} {c : Code} {cells slots : Nat} {Q : State → Prop} {b L : Nat} {xs : Nat → Int32} {D : va_G} {cI cS : ClassId} {a0 m0 : Nat} (C : CallFix p m c cL_law 4 s #[Value.ref b] wsL_law RL) (hX : va_X b L xs s s.heap) (hbl : b < s.heap.size) (hE : jE D cI cS s) (hT0 : jT (fun q => s.heap.size ≤ q) s s.heap) (hL : L ≤ 3072) (hce : cells ≤ room_1.cells ∧ slots ≤ room_1.slots) {i : Nat} (hi : i + 6 ≤ L) {H : Heap} {locs : List Loc} {ls : Array Slot} (hI : Inv (fun q => s.heap.size ≤ q) D cI cS a0 m0 H) (hS : va_S (fun q => s.heap.size ≤ q) s.heap H locs) (hl : lv_has ls 4 [(3, .int (iI (i : Int))), (2, .ref m0), (1, .ref a0), (0, .ref b)])
    (kk : ∀ (H1 : Heap) (locs1 : List Loc), Inv (fun q => s.heap.size ≤ q) D cI cS a0 m0 H1 → va_S (fun q => s.heap.size ≤ q) s.heap H1 locs1 → W p l e room_1 s m #[Value.ref b] below meth c H1 locs1 cells slots Q (F0 m 1141 ls [])) : W p l e room_1 s m #[Value.ref b] below meth c H locs cells slots Q (F0 m 378 ls []) := by
  obtain ⟨ad, am, I, R, F, R', rfl, rfl, hP, hD, hQ, hDM, hap, hst⟩ := hI
  have hx := C.1
  have hb := C.2.1
  have hbA : ¬ (fun q => s.heap.size ≤ q) b := fun q => absurd hbl (Nat.not_lt.mpr q)
  have hV := hst.vi
  have hM9 := hst.mv
  refine lv_aload_n hx hb dL_law_378 rfl (lv_at hl 2 rfl) ?_
  refine lv_aload_n hx hb dL_law_379 rfl (lv_at hl 3 rfl) ?_
  refine lv_iload_n hx hb dL_law_380 rfl (lv_at hl 0 rfl) ?_
  refine jz_const C dL_law_381 ?_
  refine jz_iadd C dL_law_382 ?_
  refine jl_sld C hX hbl hbA hS (i + 1) (by omega) (by omega) hL dL_law_383 ?_
  have hr1 := iI_rng (xs (i + 1))
  refine jc_V C hl.1 (jpreV hE hP 3 0 rfl rfl) (c_X3_minds ((xs (i + 1)).toInt) hV hr1) (cwV 1 C.2.2.2.2 gL_law_X3_minds rfl rfl rfl (by decide +kernel) ⟨Nat.le_of_ble_eq_true rfl, Nat.le_of_ble_eq_true rfl⟩) (As := [.int (iI (xs (i + 1)).toInt)]) (v := .int (iI (k_X3_minds I R ((xs (i + 1)).toInt)))) (hn := rfl) (hst := rfl) (rest := []) (hW := Nat.le_of_ble_eq_true rfl) (hdg := dL_law_384) (hf := hce) ?_
  refine lv_aload_n hx hb dL_law_387 rfl (lv_at hl 1 rfl) ?_
  refine lv_aload_n hx hb dL_law_388 rfl (lv_at hl 3 rfl) ?_
  refine lv_iload_n hx hb dL_law_389 rfl (lv_at hl 0 rfl) ?_
  refine jz_const C dL_law_390 ?_
  refine jz_iadd C dL_law_391 ?_
  refine jl_sld C hX hbl hbA hS (i + 1) (by omega) (by omega) hL dL_law_392 ?_
  refine jc_V C hl.1 (jpreV hE hQ 4 0 rfl rfl) (c_X4_minds ((xs (i + 1)).toInt) hM9 hr1) (cwV 1 C.2.2.2.2 gL_law_X4_minds rfl rfl rfl (by decide +kernel) ⟨Nat.le_of_ble_eq_true rfl, Nat.le_of_ble_eq_true rfl⟩) (As := [.int (iI (xs (i + 1)).toInt)]) (v := .int (iI (k_X4_minds F R' ((xs (i + 1)).toInt)))) (hn := rfl) (hst := rfl) (rest := [.int (iI (k_X3_minds I R ((xs (i + 1)).toInt)))]) (hW := Nat.le_of_ble_eq_true rfl) (hdg := dL_law_393) (hf := hce) ?_
  have heq : (k_X3_minds I R ((xs (i + 1)).toInt) : Int) = k_X4_minds F R' ((xs (i + 1)).toInt) := (eq_minds hst ((xs (i + 1)).toInt))
  have hst2 := hst
  exact lv_icmp_eq (tgt := 1141) hx hb dL_law_396 (by decide) (fun _ => kk _ _ ⟨ad, am, I, R, F, R', rfl, rfl, hP, hD, hQ, jDM hDM, Apt_M hap, hst2⟩ hS) (fun hne => absurd (congrArg iI heq) hne)
set_option maxHeartbeats 4000000 in
set_option maxRecDepth 100000 in
theorem law_7 {p : Program} {l : Launch} {e : Env} {s : State} {m : MethodId} {below : List Frame} {meth : Method} {c : Code} {cells slots : Nat} {Q : State → Prop} {b L : Nat} {xs : Nat → Int32} {D : va_G} {cI cS : ClassId} {a0 m0 : Nat} (C : CallFix p m c cL_law 4 s #[Value.ref b] wsL_law RL) (hX : va_X b L xs s s.heap) (hbl : b < s.heap.size) (hE : jE D cI cS s) (hT0 : jT (fun q => s.heap.size ≤ q) s s.heap) (hL : L ≤ 3072) (hce : cells ≤ room_1.cells ∧ slots ≤ room_1.slots) {i : Nat} (hi : i + 6 ≤ L) {H : Heap} {locs : List Loc} {ls : Array Slot} (hI : Inv (fun q => s.heap.size ≤ q) D cI cS a0 m0 H) (hS : va_S (fun q => s.heap.size ≤ q) s.heap H locs) (hl : lv_has ls 4 [(3, .int (iI (i : Int))), (2, .ref m0), (1, .ref a0), (0, .ref b)])
    (kk : ∀ (H1 : Heap) (locs1 : List Loc), Inv (fun q => s.heap.size ≤ q) D cI cS a0 m0 H1 → va_S (fun q => s.heap.size ≤ q) s.heap H1 locs1 → W p l e room_1 s m #[Value.ref b] below meth c H1 locs1 cells slots Q (F0 m 1141 ls [])) : W p l e room_1 s m #[Value.ref b] below meth c H locs cells slots Q (F0 m 401 ls []) := by
  obtain ⟨ad, am, I, R, F, R', rfl, rfl, hP, hD, hQ, hDM, hap, hst⟩ := hI
  have hx := C.1
  have hb := C.2.1
  have hbA : ¬ (fun q => s.heap.size ≤ q) b := fun q => absurd hbl (Nat.not_lt.mpr q)
  have hV := hst.vi
  have hM9 := hst.mv
  refine lv_aload_n hx hb dL_law_401 rfl (lv_at hl 2 rfl) ?_
  refine jc_V C hl.1 (jpreV hE hP 3 0 rfl rfl) (c_X3_burden  hV) (cwV 0 C.2.2.2.2 gL_law_X3_burden rfl rfl rfl (by decide +kernel) ⟨Nat.le_of_ble_eq_true rfl, Nat.le_of_ble_eq_true rfl⟩) (As := []) (v := .int (iI (k_X3_burden I R ))) (hn := rfl) (hst := rfl) (rest := []) (hW := Nat.le_of_ble_eq_true rfl) (hdg := dL_law_402) (hf := hce) ?_
  refine lv_aload_n hx hb dL_law_405 rfl (lv_at hl 1 rfl) ?_
  refine jc_V C hl.1 (jpreV hE hQ 4 0 rfl rfl) (c_X4_burden  hM9) (cwV 0 C.2.2.2.2 gL_law_X4_burden rfl rfl rfl (by decide +kernel) ⟨Nat.le_of_ble_eq_true rfl, Nat.le_of_ble_eq_true rfl⟩) (As := []) (v := .int (iI (k_X4_burden F R' ))) (hn := rfl) (hst := rfl) (rest := [.int (iI (k_X3_burden I R ))]) (hW := Nat.le_of_ble_eq_true rfl) (hdg := dL_law_406) (hf := hce) ?_
  have heq : (k_X3_burden I R  : Int) = k_X4_burden F R'  := (eq_burden hst )
  have hst2 := hst
  exact lv_icmp_eq (tgt := 1141) hx hb dL_law_409 (by decide) (fun _ => kk _ _ ⟨ad, am, I, R, F, R', rfl, rfl, hP, hD, hQ, jDM hDM, Apt_M hap, hst2⟩ hS) (fun hne => absurd (congrArg iI heq) hne)
set_option maxHeartbeats 4000000 in
set_option maxRecDepth 100000 in
theorem law_8 {p : Program} {l : Launch} {e : Env} {s : State} {m : MethodId} {below : List Frame} {meth : Method} {c : Code} {cells slots : Nat} {Q : State → Prop} {b L : Nat} {xs : Nat → Int32} {D : va_G} {cI cS : ClassId} {a0 m0 : Nat} (C : CallFix p m c cL_law 4 s #[Value.ref b] wsL_law RL) (hX : va_X b L xs s s.heap) (hbl : b < s.heap.size) (hE : jE D cI cS s) (hT0 : jT (fun q => s.heap.size ≤ q) s s.heap) (hL : L ≤ 3072) (hce : cells ≤ room_1.cells ∧ slots ≤ room_1.slots) {i : Nat} (hi : i + 6 ≤ L) {H : Heap} {locs : List Loc} {ls : Array Slot} (hI : Inv (fun q => s.heap.size ≤ q) D cI cS a0 m0 H) (hS : va_S (fun q => s.heap.size ≤ q) s.heap H locs) (hl : lv_has ls 4 [(3, .int (iI (i : Int))), (2, .ref m0), (1, .ref a0), (0, .ref b)])
    (kk : ∀ (H1 : Heap) (locs1 : List Loc), Inv (fun q => s.heap.size ≤ q) D cI cS a0 m0 H1 → va_S (fun q => s.heap.size ≤ q) s.heap H1 locs1 → W p l e room_1 s m #[Value.ref b] below meth c H1 locs1 cells slots Q (F0 m 1141 ls [])) : W p l e room_1 s m #[Value.ref b] below meth c H locs cells slots Q (F0 m 414 ls []) := by
  obtain ⟨ad, am, I, R, F, R', rfl, rfl, hP, hD, hQ, hDM, hap, hst⟩ := hI
  have hx := C.1
  have hb := C.2.1
  have hbA : ¬ (fun q => s.heap.size ≤ q) b := fun q => absurd hbl (Nat.not_lt.mpr q)
  have hV := hst.vi
  have hM9 := hst.mv
  refine lv_aload_n hx hb dL_law_414 rfl (lv_at hl 2 rfl) ?_
  refine lv_aload_n hx hb dL_law_415 rfl (lv_at hl 3 rfl) ?_
  refine lv_iload_n hx hb dL_law_416 rfl (lv_at hl 0 rfl) ?_
  refine jz_const C dL_law_417 ?_
  refine jz_iadd C dL_law_418 ?_
  refine jl_sld C hX hbl hbA hS (i + 1) (by omega) (by omega) hL dL_law_419 ?_
  have hr1 := iI_rng (xs (i + 1))
  refine lv_aload_n hx hb dL_law_420 rfl (lv_at hl 3 rfl) ?_
  refine lv_iload_n hx hb dL_law_421 rfl (lv_at hl 0 rfl) ?_
  refine jz_const C dL_law_422 ?_
  refine jz_iadd C dL_law_423 ?_
  refine jl_sld C hX hbl hbA hS (i + 2) (by omega) (by omega) hL dL_law_424 ?_
  have hr2 := iI_rng (xs (i + 2))
  refine lv_aload_n hx hb dL_law_425 rfl (lv_at hl 3 rfl) ?_
  refine lv_iload_n hx hb dL_law_426 rfl (lv_at hl 0 rfl) ?_
  refine jz_const C dL_law_427 ?_
  refine jz_iadd C dL_law_428 ?_
  refine jl_sld C hX hbl hbA hS (i + 3) (by omega) (by omega) hL dL_law_429 ?_
  have hr3 := iI_rng (xs (i + 3))
  refine lv_aload_n hx hb dL_law_430 rfl (lv_at hl 3 rfl) ?_
  refine lv_iload_n hx hb dL_law_431 rfl (lv_at hl 0 rfl) ?_
  refine jz_const C dL_law_432 ?_
  refine jz_iadd C dL_law_433 ?_
  refine jl_sld C hX hbl hbA hS (i + 4) (by omega) (by omega) hL dL_law_434 ?_
  have hr4 := iI_rng (xs (i + 4))
  refine jl_V C hl.1 hQ hD hap (jpreV hE hP 3 0 rfl rfl) (c_X3_told (A := AC _) (AC.own hD) ((xs (i + 1)).toInt) ((xs (i + 2)).toInt) ((xs (i + 3)).toInt) ((xs (i + 4)).toInt) hV hr1 hr2 hr3 hr4) (cwV 4 C.2.2.2.2 gL_law_X3_told rfl rfl rfl (by decide +kernel) ⟨Nat.le_of_ble_eq_true rfl, Nat.le_of_ble_eq_true rfl⟩) (As := [.int (iI (xs (i + 1)).toInt), .int (iI (xs (i + 2)).toInt), .int (iI (xs (i + 3)).toInt), .int (iI (xs (i + 4)).toInt)]) (hn := rfl) (hst := rfl) (rest := []) (hW := Nat.le_of_ble_eq_true rfl) (hdg := dL_law_435) (hf := hce) hS (fun v9 u9 H locs hq9 hG9 hO9 hS => ?_)
  obtain ⟨I2, R2⟩ := u9
  obtain ⟨hv9, hI9, hR9⟩ := hq9
  subst hv9
  have hI9 : I2 = (k_X3_told I R ((xs (i + 1)).toInt) ((xs (i + 2)).toInt) ((xs (i + 3)).toInt) ((xs (i + 4)).toInt)).2.1 := hI9
  have hQ := hO9
  have hP : va_P D vwCl (wC cI cS ad I2 R2) H := hG9
  have hap : Apt (wC cI cS ad I2 R2) (wM cI am F R') := Apt_C hap
  have hD : va_D (fun q => s.heap.size ≤ q) (wC cI cS ad I2 R2) := jDC hD
  refine lv_aload_n hx hb dL_law_438 rfl (lv_at hl 1 rfl) ?_
  refine lv_aload_n hx hb dL_law_439 rfl (lv_at hl 3 rfl) ?_
  refine lv_iload_n hx hb dL_law_440 rfl (lv_at hl 0 rfl) ?_
  refine jz_const C dL_law_441 ?_
  refine jz_iadd C dL_law_442 ?_
  refine jl_sld C hX hbl hbA hS (i + 1) (by omega) (by omega) hL dL_law_443 ?_
  refine lv_aload_n hx hb dL_law_444 rfl (lv_at hl 3 rfl) ?_
  refine lv_iload_n hx hb dL_law_445 rfl (lv_at hl 0 rfl) ?_
  refine jz_const C dL_law_446 ?_
  refine jz_iadd C dL_law_447 ?_
  refine jl_sld C hX hbl hbA hS (i + 2) (by omega) (by omega) hL dL_law_448 ?_
  refine lv_aload_n hx hb dL_law_449 rfl (lv_at hl 3 rfl) ?_
  refine lv_iload_n hx hb dL_law_450 rfl (lv_at hl 0 rfl) ?_
  refine jz_const C dL_law_451 ?_
  refine jz_iadd C dL_law_452 ?_
  refine jl_sld C hX hbl hbA hS (i + 3) (by omega) (by omega) hL dL_law_453 ?_
  refine lv_aload_n hx hb dL_law_454 rfl (lv_at hl 3 rfl) ?_
  refine lv_iload_n hx hb dL_law_455 rfl (lv_at hl 0 rfl) ?_
  refine jz_const C dL_law_456 ?_
  refine jz_iadd C dL_law_457 ?_
  refine jl_sld C hX hbl hbA hS (i + 4) (by omega) (by omega) hL dL_law_458 ?_
  refine jl_V C hl.1 hP hDM hap.symm (jpreV hE hQ 4 0 rfl rfl) (c_X4_told (A := AC _) (AC.own hDM) ((xs (i + 1)).toInt) ((xs (i + 2)).toInt) ((xs (i + 3)).toInt) ((xs (i + 4)).toInt) hM9 hr1 hr2 hr3 hr4) (cwV 4 C.2.2.2.2 gL_law_X4_told rfl rfl rfl (by decide +kernel) ⟨Nat.le_of_ble_eq_true rfl, Nat.le_of_ble_eq_true rfl⟩) (As := [.int (iI (xs (i + 1)).toInt), .int (iI (xs (i + 2)).toInt), .int (iI (xs (i + 3)).toInt), .int (iI (xs (i + 4)).toInt)]) (hn := rfl) (hst := rfl) (rest := [.int (iI ((k_X3_told I R ((xs (i + 1)).toInt) ((xs (i + 2)).toInt) ((xs (i + 3)).toInt) ((xs (i + 4)).toInt)).1))]) (hW := Nat.le_of_ble_eq_true rfl) (hdg := dL_law_459) (hf := hce) hS (fun v9 u9 H locs hq9 hG9 hO9 hS => ?_)
  obtain ⟨F2, R2'⟩ := u9
  obtain ⟨hv9, hF9, hM9r⟩ := hq9
  subst hv9
  have hF9 : F2 = (k_X4_told F R' ((xs (i + 1)).toInt) ((xs (i + 2)).toInt) ((xs (i + 3)).toInt) ((xs (i + 4)).toInt)).2.1 := hF9
  have hQ : va_P D vwCl (wM cI am F2 R2') H := hG9
  have hP := hO9
  have heqs := (eq_told hst ((xs (i + 1)).toInt) ((xs (i + 2)).toInt) ((xs (i + 3)).toInt) ((xs (i + 4)).toInt))
  have heq : ((k_X3_told I R ((xs (i + 1)).toInt) ((xs (i + 2)).toInt) ((xs (i + 3)).toInt) ((xs (i + 4)).toInt)).1 : Int) = (k_X4_told F R' ((xs (i + 1)).toInt) ((xs (i + 2)).toInt) ((xs (i + 3)).toInt) ((xs (i + 4)).toInt)).1 := heqs.1
  have hst1 := heqs.2
  have hst2 : St I2 R2 F2 R2' := by
    rw [hI9]
    rw [hF9]
    rw [show R2' = (k_X4_told F R' ((xs (i + 1)).toInt) ((xs (i + 2)).toInt) ((xs (i + 3)).toInt) ((xs (i + 4)).toInt)).2.2 from hM9r]
    exact (hst1.jq hR9)
  exact lv_icmp_eq (tgt := 1141) hx hb dL_law_462 (by decide) (fun _ => kk _ _ ⟨ad, am, I2, R2, F2, R2', rfl, rfl, hP, hD, hQ, jDM hDM, Apt_M hap, hst2⟩ hS) (fun hne => absurd (congrArg iI heq) hne)
set_option maxHeartbeats 4000000 in
set_option maxRecDepth 100000 in
theorem law_9 {p : Program} {l : Launch} {e : Env} {s : State} {m : MethodId} {below : List Frame} {meth : Method} {c : Code} {cells slots : Nat} {Q : State → Prop} {b L : Nat} {xs : Nat → Int32} {D : va_G} {cI cS : ClassId} {a0 m0 : Nat} (C : CallFix p m c cL_law 4 s #[Value.ref b] wsL_law RL) (hX : va_X b L xs s s.heap) (hbl : b < s.heap.size) (hE : jE D cI cS s) (hT0 : jT (fun q => s.heap.size ≤ q) s s.heap) (hL : L ≤ 3072) (hce : cells ≤ room_1.cells ∧ slots ≤ room_1.slots) {i : Nat} (hi : i + 6 ≤ L) {H : Heap} {locs : List Loc} {ls : Array Slot} (hI : Inv (fun q => s.heap.size ≤ q) D cI cS a0 m0 H) (hS : va_S (fun q => s.heap.size ≤ q) s.heap H locs) (hl : lv_has ls 4 [(3, .int (iI (i : Int))), (2, .ref m0), (1, .ref a0), (0, .ref b)])
    (kk : ∀ (H1 : Heap) (locs1 : List Loc), Inv (fun q => s.heap.size ≤ q) D cI cS a0 m0 H1 → va_S (fun q => s.heap.size ≤ q) s.heap H1 locs1 → W p l e room_1 s m #[Value.ref b] below meth c H1 locs1 cells slots Q (F0 m 1141 ls [])) : W p l e room_1 s m #[Value.ref b] below meth c H locs cells slots Q (F0 m 467 ls []) := by
  obtain ⟨ad, am, I, R, F, R', rfl, rfl, hP, hD, hQ, hDM, hap, hst⟩ := hI
  have hx := C.1
  have hb := C.2.1
  have hbA : ¬ (fun q => s.heap.size ≤ q) b := fun q => absurd hbl (Nat.not_lt.mpr q)
  have hV := hst.vi
  have hM9 := hst.mv
  refine lv_aload_n hx hb dL_law_467 rfl (lv_at hl 2 rfl) ?_
  refine lv_aload_n hx hb dL_law_468 rfl (lv_at hl 3 rfl) ?_
  refine lv_iload_n hx hb dL_law_469 rfl (lv_at hl 0 rfl) ?_
  refine jz_const C dL_law_470 ?_
  refine jz_iadd C dL_law_471 ?_
  refine jl_sld C hX hbl hbA hS (i + 1) (by omega) (by omega) hL dL_law_472 ?_
  have hr1 := iI_rng (xs (i + 1))
  refine lv_aload_n hx hb dL_law_473 rfl (lv_at hl 3 rfl) ?_
  refine lv_iload_n hx hb dL_law_474 rfl (lv_at hl 0 rfl) ?_
  refine jz_const C dL_law_475 ?_
  refine jz_iadd C dL_law_476 ?_
  refine jl_sld C hX hbl hbA hS (i + 2) (by omega) (by omega) hL dL_law_477 ?_
  have hr2 := iI_rng (xs (i + 2))
  refine jc_V C hl.1 (jpreV hE hP 3 0 rfl rfl) (c_X3_vote ((xs (i + 1)).toInt) ((xs (i + 2)).toInt) hV hr1 hr2) (cwV 2 C.2.2.2.2 gL_law_X3_vote rfl rfl rfl (by decide +kernel) ⟨Nat.le_of_ble_eq_true rfl, Nat.le_of_ble_eq_true rfl⟩) (As := [.int (iI (xs (i + 1)).toInt), .int (iI (xs (i + 2)).toInt)]) (v := .int (iI (k_X3_vote I R ((xs (i + 1)).toInt) ((xs (i + 2)).toInt)))) (hn := rfl) (hst := rfl) (rest := []) (hW := Nat.le_of_ble_eq_true rfl) (hdg := dL_law_478) (hf := hce) ?_
  refine lv_aload_n hx hb dL_law_481 rfl (lv_at hl 1 rfl) ?_
  refine lv_aload_n hx hb dL_law_482 rfl (lv_at hl 3 rfl) ?_
  refine lv_iload_n hx hb dL_law_483 rfl (lv_at hl 0 rfl) ?_
  refine jz_const C dL_law_484 ?_
  refine jz_iadd C dL_law_485 ?_
  refine jl_sld C hX hbl hbA hS (i + 1) (by omega) (by omega) hL dL_law_486 ?_
  refine lv_aload_n hx hb dL_law_487 rfl (lv_at hl 3 rfl) ?_
  refine lv_iload_n hx hb dL_law_488 rfl (lv_at hl 0 rfl) ?_
  refine jz_const C dL_law_489 ?_
  refine jz_iadd C dL_law_490 ?_
  refine jl_sld C hX hbl hbA hS (i + 2) (by omega) (by omega) hL dL_law_491 ?_
  refine jl_V C hl.1 hP hDM hap.symm (jpreV hE hQ 4 0 rfl rfl) (c_X4_vote (A := AC _) (AC.own hDM) ((xs (i + 1)).toInt) ((xs (i + 2)).toInt) hM9 hr1 hr2) (cwV 2 C.2.2.2.2 gL_law_X4_vote rfl rfl rfl (by decide +kernel) ⟨Nat.le_of_ble_eq_true rfl, Nat.le_of_ble_eq_true rfl⟩) (As := [.int (iI (xs (i + 1)).toInt), .int (iI (xs (i + 2)).toInt)]) (hn := rfl) (hst := rfl) (rest := [.int (iI (k_X3_vote I R ((xs (i + 1)).toInt) ((xs (i + 2)).toInt)))]) (hW := Nat.le_of_ble_eq_true rfl) (hdg := dL_law_492) (hf := hce) hS (fun v9 u9 H locs hq9 hG9 hO9 hS => ?_)
  obtain ⟨F2, R2'⟩ := u9
  obtain ⟨hv9, hF9, hM9r⟩ := hq9
  subst hv9
  have hF9 : F2 = (k_X4_vote F R' ((xs (i + 1)).toInt) ((xs (i + 2)).toInt)).2.1 := hF9
  have hQ : va_P D vwCl (wM cI am F2 R2') H := hG9
  have hP := hO9
  have heqs := (eq_vote hst ((xs (i + 1)).toInt) ((xs (i + 2)).toInt))
  have heq : (k_X3_vote I R ((xs (i + 1)).toInt) ((xs (i + 2)).toInt) : Int) = (k_X4_vote F R' ((xs (i + 1)).toInt) ((xs (i + 2)).toInt)).1 := heqs.1
  have hst1 : St I R (k_X4_vote F R' ((xs (i + 1)).toInt) ((xs (i + 2)).toInt)).2.1 (k_X4_vote F R' ((xs (i + 1)).toInt) ((xs (i + 2)).toInt)).2.2 := by rw [heqs.2]; exact hst
  have hst2 : St I R F2 R2' := by
    rw [hF9]
    rw [show R2' = (k_X4_vote F R' ((xs (i + 1)).toInt) ((xs (i + 2)).toInt)).2.2 from hM9r]
    exact hst1
  exact lv_icmp_eq (tgt := 1141) hx hb dL_law_495 (by decide) (fun _ => kk _ _ ⟨ad, am, I, R, F2, R2', rfl, rfl, hP, hD, hQ, jDM hDM, Apt_M hap, hst2⟩ hS) (fun hne => absurd (congrArg iI heq) hne)
set_option maxHeartbeats 4000000 in
set_option maxRecDepth 100000 in
theorem law_10 {p : Program} {l : Launch} {e : Env} {s : State} {m : MethodId} {below : List Frame} {meth : Method} {c : Code} {cells slots : Nat} {Q : State → Prop} {b L : Nat} {xs : Nat → Int32} {D : va_G} {cI cS : ClassId} {a0 m0 : Nat} (C : CallFix p m c cL_law 4 s #[Value.ref b] wsL_law RL) (hX : va_X b L xs s s.heap) (hbl : b < s.heap.size) (hE : jE D cI cS s) (hT0 : jT (fun q => s.heap.size ≤ q) s s.heap) (hL : L ≤ 3072) (hce : cells ≤ room_1.cells ∧ slots ≤ room_1.slots) {i : Nat} (hi : i + 6 ≤ L) {H : Heap} {locs : List Loc} {ls : Array Slot} (hI : Inv (fun q => s.heap.size ≤ q) D cI cS a0 m0 H) (hS : va_S (fun q => s.heap.size ≤ q) s.heap H locs) (hl : lv_has ls 4 [(3, .int (iI (i : Int))), (2, .ref m0), (1, .ref a0), (0, .ref b)])
    (kk : ∀ (H1 : Heap) (locs1 : List Loc), Inv (fun q => s.heap.size ≤ q) D cI cS a0 m0 H1 → va_S (fun q => s.heap.size ≤ q) s.heap H1 locs1 → W p l e room_1 s m #[Value.ref b] below meth c H1 locs1 cells slots Q (F0 m 1141 ls [])) : W p l e room_1 s m #[Value.ref b] below meth c H locs cells slots Q (F0 m 500 ls []) := by
  obtain ⟨ad, am, I, R, F, R', rfl, rfl, hP, hD, hQ, hDM, hap, hst⟩ := hI
  have hx := C.1
  have hb := C.2.1
  have hbA : ¬ (fun q => s.heap.size ≤ q) b := fun q => absurd hbl (Nat.not_lt.mpr q)
  have hV := hst.vi
  have hM9 := hst.mv
  refine lv_aload_n hx hb dL_law_500 rfl (lv_at hl 2 rfl) ?_
  refine lv_aload_n hx hb dL_law_501 rfl (lv_at hl 3 rfl) ?_
  refine lv_iload_n hx hb dL_law_502 rfl (lv_at hl 0 rfl) ?_
  refine jz_const C dL_law_503 ?_
  refine jz_iadd C dL_law_504 ?_
  refine jl_sld C hX hbl hbA hS (i + 1) (by omega) (by omega) hL dL_law_505 ?_
  have hr1 := iI_rng (xs (i + 1))
  refine jl_V C hl.1 hQ hD hap (jpreV hE hP 3 0 rfl rfl) (c_X3_ballot (A := AC _) (AC.own hD) ((xs (i + 1)).toInt) hV hr1) (cwV 1 C.2.2.2.2 gL_law_X3_ballot rfl rfl rfl (by decide +kernel) ⟨Nat.le_of_ble_eq_true rfl, Nat.le_of_ble_eq_true rfl⟩) (As := [.int (iI (xs (i + 1)).toInt)]) (hn := rfl) (hst := rfl) (rest := []) (hW := Nat.le_of_ble_eq_true rfl) (hdg := dL_law_506) (hf := hce) hS (fun v9 u9 H locs hq9 hG9 hO9 hS => ?_)
  obtain ⟨I2, R2⟩ := u9
  obtain ⟨hv9, hI9, hR9⟩ := hq9
  subst hv9
  have hI9 : I2 = (k_X3_ballot I R ((xs (i + 1)).toInt)).2.1 := hI9
  have hQ := hO9
  have hP : va_P D vwCl (wC cI cS ad I2 R2) H := hG9
  have hap : Apt (wC cI cS ad I2 R2) (wM cI am F R') := Apt_C hap
  have hD : va_D (fun q => s.heap.size ≤ q) (wC cI cS ad I2 R2) := jDC hD
  refine lv_aload_n hx hb dL_law_509 rfl (lv_at hl 1 rfl) ?_
  refine lv_aload_n hx hb dL_law_510 rfl (lv_at hl 3 rfl) ?_
  refine lv_iload_n hx hb dL_law_511 rfl (lv_at hl 0 rfl) ?_
  refine jz_const C dL_law_512 ?_
  refine jz_iadd C dL_law_513 ?_
  refine jl_sld C hX hbl hbA hS (i + 1) (by omega) (by omega) hL dL_law_514 ?_
  refine jl_V C hl.1 hP hDM hap.symm (jpreV hE hQ 4 0 rfl rfl) (c_X4_ballot (A := AC _) (AC.own hDM) ((xs (i + 1)).toInt) hM9 hr1) (cwV 1 C.2.2.2.2 gL_law_X4_ballot rfl rfl rfl (by decide +kernel) ⟨Nat.le_of_ble_eq_true rfl, Nat.le_of_ble_eq_true rfl⟩) (As := [.int (iI (xs (i + 1)).toInt)]) (hn := rfl) (hst := rfl) (rest := [.int (iI ((k_X3_ballot I R ((xs (i + 1)).toInt)).1))]) (hW := Nat.le_of_ble_eq_true rfl) (hdg := dL_law_515) (hf := hce) hS (fun v9 u9 H locs hq9 hG9 hO9 hS => ?_)
  obtain ⟨F2, R2'⟩ := u9
  obtain ⟨hv9, hF9, hM9r⟩ := hq9
  subst hv9
  have hF9 : F2 = (k_X4_ballot F R' ((xs (i + 1)).toInt)).2.1 := hF9
  have hQ : va_P D vwCl (wM cI am F2 R2') H := hG9
  have hP := hO9
  have heqs := (eq_ballot hst ((xs (i + 1)).toInt))
  have heq : ((k_X3_ballot I R ((xs (i + 1)).toInt)).1 : Int) = (k_X4_ballot F R' ((xs (i + 1)).toInt)).1 := heqs.1
  have hst1 : St (k_X3_ballot I R ((xs (i + 1)).toInt)).2.1 (k_X3_ballot I R ((xs (i + 1)).toInt)).2.2 (k_X4_ballot F R' ((xs (i + 1)).toInt)).2.1 (k_X4_ballot F R' ((xs (i + 1)).toInt)).2.2 := by rw [heqs.2.1, heqs.2.2]; exact hst
  have hst2 : St I2 R2 F2 R2' := by
    rw [hI9]
    rw [hF9]
    rw [show R2' = (k_X4_ballot F R' ((xs (i + 1)).toInt)).2.2 from hM9r]
    exact (hst1.jq hR9)
  exact lv_icmp_eq (tgt := 1141) hx hb dL_law_518 (by decide) (fun _ => kk _ _ ⟨ad, am, I2, R2, F2, R2', rfl, rfl, hP, hD, hQ, jDM hDM, Apt_M hap, hst2⟩ hS) (fun hne => absurd (congrArg iI heq) hne)
set_option maxHeartbeats 4000000 in
set_option maxRecDepth 100000 in
theorem law_11 {p : Program} {l : Launch} {e : Env} {s : State} {m : MethodId} {below : List Frame} {meth : Method} {c : Code} {cells slots : Nat} {Q : State → Prop} {b L : Nat} {xs : Nat → Int32} {D : va_G} {cI cS : ClassId} {a0 m0 : Nat} (C : CallFix p m c cL_law 4 s #[Value.ref b] wsL_law RL) (hX : va_X b L xs s s.heap) (hbl : b < s.heap.size) (hE : jE D cI cS s) (hT0 : jT (fun q => s.heap.size ≤ q) s s.heap) (hL : L ≤ 3072) (hce : cells ≤ room_1.cells ∧ slots ≤ room_1.slots) {i : Nat} (hi : i + 6 ≤ L) {H : Heap} {locs : List Loc} {ls : Array Slot} (hI : Inv (fun q => s.heap.size ≤ q) D cI cS a0 m0 H) (hS : va_S (fun q => s.heap.size ≤ q) s.heap H locs) (hl : lv_has ls 4 [(3, .int (iI (i : Int))), (2, .ref m0), (1, .ref a0), (0, .ref b)])
    (kk : ∀ (H1 : Heap) (locs1 : List Loc), Inv (fun q => s.heap.size ≤ q) D cI cS a0 m0 H1 → va_S (fun q => s.heap.size ≤ q) s.heap H1 locs1 → W p l e room_1 s m #[Value.ref b] below meth c H1 locs1 cells slots Q (F0 m 1141 ls [])) : W p l e room_1 s m #[Value.ref b] below meth c H locs cells slots Q (F0 m 523 ls []) := by
  obtain ⟨ad, am, I, R, F, R', rfl, rfl, hP, hD, hQ, hDM, hap, hst⟩ := hI
  have hx := C.1
  have hb := C.2.1
  have hbA : ¬ (fun q => s.heap.size ≤ q) b := fun q => absurd hbl (Nat.not_lt.mpr q)
  have hV := hst.vi
  have hM9 := hst.mv
  refine lv_aload_n hx hb dL_law_523 rfl (lv_at hl 2 rfl) ?_
  refine jl_V C hl.1 hQ hD hap (jpreV hE hP 3 0 rfl rfl) (c_X3_year (A := AC _) (AC.own hD)  hV) (cwV 0 C.2.2.2.2 gL_law_X3_year rfl rfl rfl (by decide +kernel) ⟨Nat.le_of_ble_eq_true rfl, Nat.le_of_ble_eq_true rfl⟩) (As := []) (hn := rfl) (hst := rfl) (rest := []) (hW := Nat.le_of_ble_eq_true rfl) (hdg := dL_law_524) (hf := hce) hS (fun v9 u9 H locs hq9 hG9 hO9 hS => ?_)
  obtain ⟨I2, R2⟩ := u9
  obtain ⟨hv9, hI9, hR9⟩ := hq9
  subst hv9
  have hI9 : I2 = (k_X3_year I R ).2.1 := hI9
  have hQ := hO9
  have hP : va_P D vwCl (wC cI cS ad I2 R2) H := hG9
  have hap : Apt (wC cI cS ad I2 R2) (wM cI am F R') := Apt_C hap
  have hD : va_D (fun q => s.heap.size ≤ q) (wC cI cS ad I2 R2) := jDC hD
  refine lv_aload_n hx hb dL_law_527 rfl (lv_at hl 1 rfl) ?_
  refine jl_V C hl.1 hP hDM hap.symm (jpreV hE hQ 4 0 rfl rfl) (c_X4_year (A := AC _) (AC.own hDM)  hM9) (cwV 0 C.2.2.2.2 gL_law_X4_year rfl rfl rfl (by decide +kernel) ⟨Nat.le_of_ble_eq_true rfl, Nat.le_of_ble_eq_true rfl⟩) (As := []) (hn := rfl) (hst := rfl) (rest := [.int (iI ((k_X3_year I R ).1))]) (hW := Nat.le_of_ble_eq_true rfl) (hdg := dL_law_528) (hf := hce) hS (fun v9 u9 H locs hq9 hG9 hO9 hS => ?_)
  obtain ⟨F2, R2'⟩ := u9
  obtain ⟨hv9, hF9, hM9r⟩ := hq9
  subst hv9
  have hF9 : F2 = (k_X4_year F R' ).2.1 := hF9
  have hQ : va_P D vwCl (wM cI am F2 R2') H := hG9
  have hP := hO9
  have heqs := (eq_year hst )
  have heq : ((k_X3_year I R ).1 : Int) = (k_X4_year F R' ).1 := heqs.1
  have hst1 := heqs.2
  have hst2 : St I2 R2 F2 R2' := by
    rw [hI9]
    rw [hF9]
    rw [show R2' = (k_X4_year F R' ).2.2 from hM9r]
    exact (hst1.jq hR9)
  exact lv_icmp_eq (tgt := 1141) hx hb dL_law_531 (by decide) (fun _ => kk _ _ ⟨ad, am, I2, R2, F2, R2', rfl, rfl, hP, hD, hQ, jDM hDM, Apt_M hap, hst2⟩ hS) (fun hne => absurd (congrArg iI heq) hne)
set_option maxHeartbeats 4000000 in
set_option maxRecDepth 100000 in
theorem law_12 {p : Program} {l : Launch} {e : Env} {s : State} {m : MethodId} {below : List Frame} {meth : Method} {c : Code} {cells slots : Nat} {Q : State → Prop} {b L : Nat} {xs : Nat → Int32} {D : va_G} {cI cS : ClassId} {a0 m0 : Nat} (C : CallFix p m c cL_law 4 s #[Value.ref b] wsL_law RL) (hX : va_X b L xs s s.heap) (hbl : b < s.heap.size) (hE : jE D cI cS s) (hT0 : jT (fun q => s.heap.size ≤ q) s s.heap) (hL : L ≤ 3072) (hce : cells ≤ room_1.cells ∧ slots ≤ room_1.slots) {i : Nat} (hi : i + 6 ≤ L) {H : Heap} {locs : List Loc} {ls : Array Slot} (hI : Inv (fun q => s.heap.size ≤ q) D cI cS a0 m0 H) (hS : va_S (fun q => s.heap.size ≤ q) s.heap H locs) (hl : lv_has ls 4 [(3, .int (iI (i : Int))), (2, .ref m0), (1, .ref a0), (0, .ref b)])
    (kk : ∀ (H1 : Heap) (locs1 : List Loc), Inv (fun q => s.heap.size ≤ q) D cI cS a0 m0 H1 → va_S (fun q => s.heap.size ≤ q) s.heap H1 locs1 → W p l e room_1 s m #[Value.ref b] below meth c H1 locs1 cells slots Q (F0 m 1141 ls [])) : W p l e room_1 s m #[Value.ref b] below meth c H locs cells slots Q (F0 m 536 ls []) := by
  obtain ⟨ad, am, I, R, F, R', rfl, rfl, hP, hD, hQ, hDM, hap, hst⟩ := hI
  have hx := C.1
  have hb := C.2.1
  have hbA : ¬ (fun q => s.heap.size ≤ q) b := fun q => absurd hbl (Nat.not_lt.mpr q)
  have hV := hst.vi
  have hM9 := hst.mv
  refine lv_aload_n hx hb dL_law_536 rfl (lv_at hl 2 rfl) ?_
  refine lv_aload_n hx hb dL_law_537 rfl (lv_at hl 3 rfl) ?_
  refine lv_iload_n hx hb dL_law_538 rfl (lv_at hl 0 rfl) ?_
  refine jz_const C dL_law_539 ?_
  refine jz_iadd C dL_law_540 ?_
  refine jl_sld C hX hbl hbA hS (i + 1) (by omega) (by omega) hL dL_law_541 ?_
  have hr1 := iI_rng (xs (i + 1))
  refine jl_V C hl.1 hQ hD hap (jpreV hE hP 3 0 rfl rfl) (c_X3_round (A := AC _) (AC.own hD) ((xs (i + 1)).toInt) hV hr1) (cwV 1 C.2.2.2.2 gL_law_X3_round rfl rfl rfl (by decide +kernel) ⟨Nat.le_of_ble_eq_true rfl, Nat.le_of_ble_eq_true rfl⟩) (As := [.int (iI (xs (i + 1)).toInt)]) (hn := rfl) (hst := rfl) (rest := []) (hW := Nat.le_of_ble_eq_true rfl) (hdg := dL_law_542) (hf := hce) hS (fun v9 u9 H locs hq9 hG9 hO9 hS => ?_)
  obtain ⟨I2, R2⟩ := u9
  obtain ⟨hv9, hI9, hR9⟩ := hq9
  subst hv9
  have hI9 : I2 = (k_X3_round I R ((xs (i + 1)).toInt)).2.1 := hI9
  have hQ := hO9
  have hP : va_P D vwCl (wC cI cS ad I2 R2) H := hG9
  have hap : Apt (wC cI cS ad I2 R2) (wM cI am F R') := Apt_C hap
  have hD : va_D (fun q => s.heap.size ≤ q) (wC cI cS ad I2 R2) := jDC hD
  refine lv_aload_n hx hb dL_law_545 rfl (lv_at hl 1 rfl) ?_
  refine lv_aload_n hx hb dL_law_546 rfl (lv_at hl 3 rfl) ?_
  refine lv_iload_n hx hb dL_law_547 rfl (lv_at hl 0 rfl) ?_
  refine jz_const C dL_law_548 ?_
  refine jz_iadd C dL_law_549 ?_
  refine jl_sld C hX hbl hbA hS (i + 1) (by omega) (by omega) hL dL_law_550 ?_
  refine jl_V C hl.1 hP hDM hap.symm (jpreV hE hQ 4 0 rfl rfl) (c_X4_round (A := AC _) (AC.own hDM) ((xs (i + 1)).toInt) hM9 hr1) (cwV 1 C.2.2.2.2 gL_law_X4_round rfl rfl rfl (by decide +kernel) ⟨Nat.le_of_ble_eq_true rfl, Nat.le_of_ble_eq_true rfl⟩) (As := [.int (iI (xs (i + 1)).toInt)]) (hn := rfl) (hst := rfl) (rest := [.int (iI ((k_X3_round I R ((xs (i + 1)).toInt)).1))]) (hW := Nat.le_of_ble_eq_true rfl) (hdg := dL_law_551) (hf := hce) hS (fun v9 u9 H locs hq9 hG9 hO9 hS => ?_)
  obtain ⟨F2, R2'⟩ := u9
  obtain ⟨hv9, hF9, hM9r⟩ := hq9
  subst hv9
  have hF9 : F2 = (k_X4_round F R' ((xs (i + 1)).toInt)).2.1 := hF9
  have hQ : va_P D vwCl (wM cI am F2 R2') H := hG9
  have hP := hO9
  have heqs := (eq_round hst ((xs (i + 1)).toInt))
  have heq : ((k_X3_round I R ((xs (i + 1)).toInt)).1 : Int) = (k_X4_round F R' ((xs (i + 1)).toInt)).1 := heqs.1
  have hst1 : St (k_X3_round I R ((xs (i + 1)).toInt)).2.1 (k_X3_round I R ((xs (i + 1)).toInt)).2.2 (k_X4_round F R' ((xs (i + 1)).toInt)).2.1 (k_X4_round F R' ((xs (i + 1)).toInt)).2.2 := by rw [heqs.2.1, heqs.2.2]; exact hst
  have hst2 : St I2 R2 F2 R2' := by
    rw [hI9]
    rw [hF9]
    exact ((hst1.jq hR9).jm hM9r)
  exact lv_icmp_eq (tgt := 1141) hx hb dL_law_554 (by decide) (fun _ => kk _ _ ⟨ad, am, I2, R2, F2, R2', rfl, rfl, hP, hD, hQ, jDM hDM, Apt_M hap, hst2⟩ hS) (fun hne => absurd (congrArg iI heq) hne)
set_option maxHeartbeats 4000000 in
set_option maxRecDepth 100000 in
theorem law_13 {p : Program} {l : Launch} {e : Env} {s : State} {m : MethodId} {below : List Frame} {meth : Method} {c : Code} {cells slots : Nat} {Q : State → Prop} {b L : Nat} {xs : Nat → Int32} {D : va_G} {cI cS : ClassId} {a0 m0 : Nat} (C : CallFix p m c cL_law 4 s #[Value.ref b] wsL_law RL) (hX : va_X b L xs s s.heap) (hbl : b < s.heap.size) (hE : jE D cI cS s) (hT0 : jT (fun q => s.heap.size ≤ q) s s.heap) (hL : L ≤ 3072) (hce : cells ≤ room_1.cells ∧ slots ≤ room_1.slots) {i : Nat} (hi : i + 6 ≤ L) {H : Heap} {locs : List Loc} {ls : Array Slot} (hI : Inv (fun q => s.heap.size ≤ q) D cI cS a0 m0 H) (hS : va_S (fun q => s.heap.size ≤ q) s.heap H locs) (hl : lv_has ls 4 [(3, .int (iI (i : Int))), (2, .ref m0), (1, .ref a0), (0, .ref b)])
    (kk : ∀ (H1 : Heap) (locs1 : List Loc), Inv (fun q => s.heap.size ≤ q) D cI cS a0 m0 H1 → va_S (fun q => s.heap.size ≤ q) s.heap H1 locs1 → W p l e room_1 s m #[Value.ref b] below meth c H1 locs1 cells slots Q (F0 m 1141 ls [])) : W p l e room_1 s m #[Value.ref b] below meth c H locs cells slots Q (F0 m 559 ls []) := by
  obtain ⟨ad, am, I, R, F, R', rfl, rfl, hP, hD, hQ, hDM, hap, hst⟩ := hI
  have hx := C.1
  have hb := C.2.1
  have hbA : ¬ (fun q => s.heap.size ≤ q) b := fun q => absurd hbl (Nat.not_lt.mpr q)
  have hV := hst.vi
  have hM9 := hst.mv
  refine lv_aload_n hx hb dL_law_559 rfl (lv_at hl 2 rfl) ?_
  refine lv_aload_n hx hb dL_law_560 rfl (lv_at hl 3 rfl) ?_
  refine lv_iload_n hx hb dL_law_561 rfl (lv_at hl 0 rfl) ?_
  refine jz_const C dL_law_562 ?_
  refine jz_iadd C dL_law_563 ?_
  refine jl_sld C hX hbl hbA hS (i + 1) (by omega) (by omega) hL dL_law_564 ?_
  have hr1 := iI_rng (xs (i + 1))
  refine jc_V C hl.1 (jpreV hE hP 3 0 rfl rfl) (c_X3_best ((xs (i + 1)).toInt) hV hr1) (cwV 1 C.2.2.2.2 gL_law_X3_best rfl rfl rfl (by decide +kernel) ⟨Nat.le_of_ble_eq_true rfl, Nat.le_of_ble_eq_true rfl⟩) (As := [.int (iI (xs (i + 1)).toInt)]) (v := .int (iI (k_X3_best I R ((xs (i + 1)).toInt)))) (hn := rfl) (hst := rfl) (rest := []) (hW := Nat.le_of_ble_eq_true rfl) (hdg := dL_law_565) (hf := hce) ?_
  refine lv_aload_n hx hb dL_law_568 rfl (lv_at hl 1 rfl) ?_
  refine lv_aload_n hx hb dL_law_569 rfl (lv_at hl 3 rfl) ?_
  refine lv_iload_n hx hb dL_law_570 rfl (lv_at hl 0 rfl) ?_
  refine jz_const C dL_law_571 ?_
  refine jz_iadd C dL_law_572 ?_
  refine jl_sld C hX hbl hbA hS (i + 1) (by omega) (by omega) hL dL_law_573 ?_
  refine jl_V C hl.1 hP hDM hap.symm (jpreV hE hQ 4 0 rfl rfl) (c_X4_best (A := AC _) (AC.own hDM) ((xs (i + 1)).toInt) hM9 hr1) (cwV 1 C.2.2.2.2 gL_law_X4_best rfl rfl rfl (by decide +kernel) ⟨Nat.le_of_ble_eq_true rfl, Nat.le_of_ble_eq_true rfl⟩) (As := [.int (iI (xs (i + 1)).toInt)]) (hn := rfl) (hst := rfl) (rest := [.int (iI (k_X3_best I R ((xs (i + 1)).toInt)))]) (hW := Nat.le_of_ble_eq_true rfl) (hdg := dL_law_574) (hf := hce) hS (fun v9 u9 H locs hq9 hG9 hO9 hS => ?_)
  obtain ⟨F2, R2'⟩ := u9
  obtain ⟨hv9, hF9, hM9r⟩ := hq9
  subst hv9
  have hF9 : F2 = (k_X4_best F R' ((xs (i + 1)).toInt)).2.1 := hF9
  have hQ : va_P D vwCl (wM cI am F2 R2') H := hG9
  have hP := hO9
  have heqs := (eq_best hst ((xs (i + 1)).toInt))
  have heq : (k_X3_best I R ((xs (i + 1)).toInt) : Int) = (k_X4_best F R' ((xs (i + 1)).toInt)).1 := heqs.1
  have hst1 := heqs.2
  have hst2 : St I R F2 R2' := by
    rw [hF9]
    rw [show R2' = (k_X4_best F R' ((xs (i + 1)).toInt)).2.2 from hM9r]
    exact hst1
  exact lv_icmp_eq (tgt := 1141) hx hb dL_law_577 (by decide) (fun _ => kk _ _ ⟨ad, am, I, R, F2, R2', rfl, rfl, hP, hD, hQ, jDM hDM, Apt_M hap, hst2⟩ hS) (fun hne => absurd (congrArg iI heq) hne)
set_option maxHeartbeats 4000000 in
set_option maxRecDepth 100000 in
theorem law_14 {p : Program} {l : Launch} {e : Env} {s : State} {m : MethodId} {below : List Frame} {meth : Method} {c : Code} {cells slots : Nat} {Q : State → Prop} {b L : Nat} {xs : Nat → Int32} {D : va_G} {cI cS : ClassId} {a0 m0 : Nat} (C : CallFix p m c cL_law 4 s #[Value.ref b] wsL_law RL) (hX : va_X b L xs s s.heap) (hbl : b < s.heap.size) (hE : jE D cI cS s) (hT0 : jT (fun q => s.heap.size ≤ q) s s.heap) (hL : L ≤ 3072) (hce : cells ≤ room_1.cells ∧ slots ≤ room_1.slots) {i : Nat} (hi : i + 6 ≤ L) {H : Heap} {locs : List Loc} {ls : Array Slot} (hI : Inv (fun q => s.heap.size ≤ q) D cI cS a0 m0 H) (hS : va_S (fun q => s.heap.size ≤ q) s.heap H locs) (hl : lv_has ls 4 [(3, .int (iI (i : Int))), (2, .ref m0), (1, .ref a0), (0, .ref b)])
    (kk : ∀ (H1 : Heap) (locs1 : List Loc), Inv (fun q => s.heap.size ≤ q) D cI cS a0 m0 H1 → va_S (fun q => s.heap.size ≤ q) s.heap H1 locs1 → W p l e room_1 s m #[Value.ref b] below meth c H1 locs1 cells slots Q (F0 m 1141 ls [])) : W p l e room_1 s m #[Value.ref b] below meth c H locs cells slots Q (F0 m 582 ls []) := by
  obtain ⟨ad, am, I, R, F, R', rfl, rfl, hP, hD, hQ, hDM, hap, hst⟩ := hI
  have hx := C.1
  have hb := C.2.1
  have hbA : ¬ (fun q => s.heap.size ≤ q) b := fun q => absurd hbl (Nat.not_lt.mpr q)
  have hV := hst.vi
  have hM9 := hst.mv
  refine lv_aload_n hx hb dL_law_582 rfl (lv_at hl 2 rfl) ?_
  refine lv_aload_n hx hb dL_law_583 rfl (lv_at hl 3 rfl) ?_
  refine lv_iload_n hx hb dL_law_584 rfl (lv_at hl 0 rfl) ?_
  refine jz_const C dL_law_585 ?_
  refine jz_iadd C dL_law_586 ?_
  refine jl_sld C hX hbl hbA hS (i + 1) (by omega) (by omega) hL dL_law_587 ?_
  have hr1 := iI_rng (xs (i + 1))
  refine jc_V C hl.1 (jpreV hE hP 3 0 rfl rfl) (c_X3_calm ((xs (i + 1)).toInt) hV hr1) (cwV 1 C.2.2.2.2 gL_law_X3_calm rfl rfl rfl (by decide +kernel) ⟨Nat.le_of_ble_eq_true rfl, Nat.le_of_ble_eq_true rfl⟩) (As := [.int (iI (xs (i + 1)).toInt)]) (v := .int (iI (k_X3_calm I R ((xs (i + 1)).toInt)))) (hn := rfl) (hst := rfl) (rest := []) (hW := Nat.le_of_ble_eq_true rfl) (hdg := dL_law_588) (hf := hce) ?_
  refine lv_aload_n hx hb dL_law_591 rfl (lv_at hl 1 rfl) ?_
  refine lv_aload_n hx hb dL_law_592 rfl (lv_at hl 3 rfl) ?_
  refine lv_iload_n hx hb dL_law_593 rfl (lv_at hl 0 rfl) ?_
  refine jz_const C dL_law_594 ?_
  refine jz_iadd C dL_law_595 ?_
  refine jl_sld C hX hbl hbA hS (i + 1) (by omega) (by omega) hL dL_law_596 ?_
  refine jl_V C hl.1 hP hDM hap.symm (jpreV hE hQ 4 0 rfl rfl) (c_X4_calm (A := AC _) (AC.own hDM) ((xs (i + 1)).toInt) hM9 hr1) (cwV 1 C.2.2.2.2 gL_law_X4_calm rfl rfl rfl (by decide +kernel) ⟨Nat.le_of_ble_eq_true rfl, Nat.le_of_ble_eq_true rfl⟩) (As := [.int (iI (xs (i + 1)).toInt)]) (hn := rfl) (hst := rfl) (rest := [.int (iI (k_X3_calm I R ((xs (i + 1)).toInt)))]) (hW := Nat.le_of_ble_eq_true rfl) (hdg := dL_law_597) (hf := hce) hS (fun v9 u9 H locs hq9 hG9 hO9 hS => ?_)
  obtain ⟨F2, R2'⟩ := u9
  obtain ⟨hv9, hF9, hM9r⟩ := hq9
  subst hv9
  have hF9 : F2 = (k_X4_calm F R' ((xs (i + 1)).toInt)).2.1 := hF9
  have hQ : va_P D vwCl (wM cI am F2 R2') H := hG9
  have hP := hO9
  have heqs := (eq_calm hst ((xs (i + 1)).toInt))
  have heq : (k_X3_calm I R ((xs (i + 1)).toInt) : Int) = (k_X4_calm F R' ((xs (i + 1)).toInt)).1 := heqs.1
  have hst1 := heqs.2
  have hst2 : St I R F2 R2' := by
    rw [hF9]
    rw [show R2' = (k_X4_calm F R' ((xs (i + 1)).toInt)).2.2 from hM9r]
    exact hst1
  exact lv_icmp_eq (tgt := 1141) hx hb dL_law_600 (by decide) (fun _ => kk _ _ ⟨ad, am, I, R, F2, R2', rfl, rfl, hP, hD, hQ, jDM hDM, Apt_M hap, hst2⟩ hS) (fun hne => absurd (congrArg iI heq) hne)
set_option maxHeartbeats 4000000 in
set_option maxRecDepth 100000 in
theorem law_15 {p : Program} {l : Launch} {e : Env} {s : State} {m : MethodId} {below : List Frame} {meth : Method} {c : Code} {cells slots : Nat} {Q : State → Prop} {b L : Nat} {xs : Nat → Int32} {D : va_G} {cI cS : ClassId} {a0 m0 : Nat} (C : CallFix p m c cL_law 4 s #[Value.ref b] wsL_law RL) (hX : va_X b L xs s s.heap) (hbl : b < s.heap.size) (hE : jE D cI cS s) (hT0 : jT (fun q => s.heap.size ≤ q) s s.heap) (hL : L ≤ 3072) (hce : cells ≤ room_1.cells ∧ slots ≤ room_1.slots) {i : Nat} (hi : i + 6 ≤ L) {H : Heap} {locs : List Loc} {ls : Array Slot} (hI : Inv (fun q => s.heap.size ≤ q) D cI cS a0 m0 H) (hS : va_S (fun q => s.heap.size ≤ q) s.heap H locs) (hl : lv_has ls 4 [(3, .int (iI (i : Int))), (2, .ref m0), (1, .ref a0), (0, .ref b)])
    (kk : ∀ (H1 : Heap) (locs1 : List Loc), Inv (fun q => s.heap.size ≤ q) D cI cS a0 m0 H1 → va_S (fun q => s.heap.size ≤ q) s.heap H1 locs1 → W p l e room_1 s m #[Value.ref b] below meth c H1 locs1 cells slots Q (F0 m 1141 ls [])) : W p l e room_1 s m #[Value.ref b] below meth c H locs cells slots Q (F0 m 605 ls []) := by
  obtain ⟨ad, am, I, R, F, R', rfl, rfl, hP, hD, hQ, hDM, hap, hst⟩ := hI
  have hx := C.1
  have hb := C.2.1
  have hbA : ¬ (fun q => s.heap.size ≤ q) b := fun q => absurd hbl (Nat.not_lt.mpr q)
  have hV := hst.vi
  have hM9 := hst.mv
  refine lv_aload_n hx hb dL_law_605 rfl (lv_at hl 2 rfl) ?_
  refine lv_aload_n hx hb dL_law_606 rfl (lv_at hl 3 rfl) ?_
  refine lv_iload_n hx hb dL_law_607 rfl (lv_at hl 0 rfl) ?_
  refine jz_const C dL_law_608 ?_
  refine jz_iadd C dL_law_609 ?_
  refine jl_sld C hX hbl hbA hS (i + 1) (by omega) (by omega) hL dL_law_610 ?_
  have hr1 := iI_rng (xs (i + 1))
  refine lv_aload_n hx hb dL_law_611 rfl (lv_at hl 3 rfl) ?_
  refine lv_iload_n hx hb dL_law_612 rfl (lv_at hl 0 rfl) ?_
  refine jz_const C dL_law_613 ?_
  refine jz_iadd C dL_law_614 ?_
  refine jl_sld C hX hbl hbA hS (i + 2) (by omega) (by omega) hL dL_law_615 ?_
  have hr2 := iI_rng (xs (i + 2))
  refine jl_V C hl.1 hQ hD hap (jpreV hE hP 3 0 rfl rfl) (c_X3_bribe (A := AC _) (AC.own hD) ((xs (i + 1)).toInt) ((xs (i + 2)).toInt) hV hr1 hr2) (cwV 2 C.2.2.2.2 gL_law_X3_bribe rfl rfl rfl (by decide +kernel) ⟨Nat.le_of_ble_eq_true rfl, Nat.le_of_ble_eq_true rfl⟩) (As := [.int (iI (xs (i + 1)).toInt), .int (iI (xs (i + 2)).toInt)]) (hn := rfl) (hst := rfl) (rest := []) (hW := Nat.le_of_ble_eq_true rfl) (hdg := dL_law_616) (hf := hce) hS (fun v9 u9 H locs hq9 hG9 hO9 hS => ?_)
  obtain ⟨I2, R2⟩ := u9
  obtain ⟨hv9, hI9, hR9⟩ := hq9
  subst hv9
  have hI9 : I2 = (k_X3_bribe I R ((xs (i + 1)).toInt) ((xs (i + 2)).toInt)).2.1 := hI9
  have hQ := hO9
  have hP : va_P D vwCl (wC cI cS ad I2 R2) H := hG9
  have hap : Apt (wC cI cS ad I2 R2) (wM cI am F R') := Apt_C hap
  have hD : va_D (fun q => s.heap.size ≤ q) (wC cI cS ad I2 R2) := jDC hD
  refine lv_aload_n hx hb dL_law_619 rfl (lv_at hl 1 rfl) ?_
  refine lv_aload_n hx hb dL_law_620 rfl (lv_at hl 3 rfl) ?_
  refine lv_iload_n hx hb dL_law_621 rfl (lv_at hl 0 rfl) ?_
  refine jz_const C dL_law_622 ?_
  refine jz_iadd C dL_law_623 ?_
  refine jl_sld C hX hbl hbA hS (i + 1) (by omega) (by omega) hL dL_law_624 ?_
  refine lv_aload_n hx hb dL_law_625 rfl (lv_at hl 3 rfl) ?_
  refine lv_iload_n hx hb dL_law_626 rfl (lv_at hl 0 rfl) ?_
  refine jz_const C dL_law_627 ?_
  refine jz_iadd C dL_law_628 ?_
  refine jl_sld C hX hbl hbA hS (i + 2) (by omega) (by omega) hL dL_law_629 ?_
  refine jl_V C hl.1 hP hDM hap.symm (jpreV hE hQ 4 0 rfl rfl) (c_X4_bribe (A := AC _) (AC.own hDM) ((xs (i + 1)).toInt) ((xs (i + 2)).toInt) hM9 hr1 hr2) (cwV 2 C.2.2.2.2 gL_law_X4_bribe rfl rfl rfl (by decide +kernel) ⟨Nat.le_of_ble_eq_true rfl, Nat.le_of_ble_eq_true rfl⟩) (As := [.int (iI (xs (i + 1)).toInt), .int (iI (xs (i + 2)).toInt)]) (hn := rfl) (hst := rfl) (rest := [.int (iI ((k_X3_bribe I R ((xs (i + 1)).toInt) ((xs (i + 2)).toInt)).1))]) (hW := Nat.le_of_ble_eq_true rfl) (hdg := dL_law_630) (hf := hce) hS (fun v9 u9 H locs hq9 hG9 hO9 hS => ?_)
  obtain ⟨F2, R2'⟩ := u9
  obtain ⟨hv9, hF9, hM9r⟩ := hq9
  subst hv9
  have hF9 : F2 = (k_X4_bribe F R' ((xs (i + 1)).toInt) ((xs (i + 2)).toInt)).2.1 := hF9
  have hQ : va_P D vwCl (wM cI am F2 R2') H := hG9
  have hP := hO9
  have heqs := (eq_bribe hst ((xs (i + 1)).toInt) ((xs (i + 2)).toInt))
  have heq : ((k_X3_bribe I R ((xs (i + 1)).toInt) ((xs (i + 2)).toInt)).1 : Int) = (k_X4_bribe F R' ((xs (i + 1)).toInt) ((xs (i + 2)).toInt)).1 := heqs.1
  have hst1 : St (k_X3_bribe I R ((xs (i + 1)).toInt) ((xs (i + 2)).toInt)).2.1 (k_X3_bribe I R ((xs (i + 1)).toInt) ((xs (i + 2)).toInt)).2.2 (k_X4_bribe F R' ((xs (i + 1)).toInt) ((xs (i + 2)).toInt)).2.1 (k_X4_bribe F R' ((xs (i + 1)).toInt) ((xs (i + 2)).toInt)).2.2 := by rw [heqs.2.1, heqs.2.2]; exact hst
  have hst2 : St I2 R2 F2 R2' := by
    rw [hI9]
    rw [hF9]
    rw [show R2' = (k_X4_bribe F R' ((xs (i + 1)).toInt) ((xs (i + 2)).toInt)).2.2 from hM9r]
    exact (hst1.jq hR9)
  exact lv_icmp_eq (tgt := 1141) hx hb dL_law_633 (by decide) (fun _ => kk _ _ ⟨ad, am, I2, R2, F2, R2', rfl, rfl, hP, hD, hQ, jDM hDM, Apt_M hap, hst2⟩ hS) (fun hne => absurd (congrArg iI heq) hne)
set_option maxHeartbeats 4000000 in
set_option maxRecDepth 100000 in
theorem law_16 {p : Program} {l : Launch} {e : Env} {s : State} {m : MethodId} {below : List Frame} {meth : Method} {c : Code} {cells slots : Nat} {Q : State → Prop} {b L : Nat} {xs : Nat → Int32} {D : va_G} {cI cS : ClassId} {a0 m0 : Nat} (C : CallFix p m c cL_law 4 s #[Value.ref b] wsL_law RL) (hX : va_X b L xs s s.heap) (hbl : b < s.heap.size) (hE : jE D cI cS s) (hT0 : jT (fun q => s.heap.size ≤ q) s s.heap) (hL : L ≤ 3072) (hce : cells ≤ room_1.cells ∧ slots ≤ room_1.slots) {i : Nat} (hi : i + 6 ≤ L) {H : Heap} {locs : List Loc} {ls : Array Slot} (hI : Inv (fun q => s.heap.size ≤ q) D cI cS a0 m0 H) (hS : va_S (fun q => s.heap.size ≤ q) s.heap H locs) (hl : lv_has ls 4 [(3, .int (iI (i : Int))), (2, .ref m0), (1, .ref a0), (0, .ref b)])
    (kk : ∀ (H1 : Heap) (locs1 : List Loc), Inv (fun q => s.heap.size ≤ q) D cI cS a0 m0 H1 → va_S (fun q => s.heap.size ≤ q) s.heap H1 locs1 → W p l e room_1 s m #[Value.ref b] below meth c H1 locs1 cells slots Q (F0 m 1141 ls [])) : W p l e room_1 s m #[Value.ref b] below meth c H locs cells slots Q (F0 m 638 ls []) := by
  obtain ⟨ad, am, I, R, F, R', rfl, rfl, hP, hD, hQ, hDM, hap, hst⟩ := hI
  have hx := C.1
  have hb := C.2.1
  have hbA : ¬ (fun q => s.heap.size ≤ q) b := fun q => absurd hbl (Nat.not_lt.mpr q)
  have hV := hst.vi
  have hM9 := hst.mv
  refine lv_aload_n hx hb dL_law_638 rfl (lv_at hl 2 rfl) ?_
  refine lv_aload_n hx hb dL_law_639 rfl (lv_at hl 3 rfl) ?_
  refine lv_iload_n hx hb dL_law_640 rfl (lv_at hl 0 rfl) ?_
  refine jz_const C dL_law_641 ?_
  refine jz_iadd C dL_law_642 ?_
  refine jl_sld C hX hbl hbA hS (i + 1) (by omega) (by omega) hL dL_law_643 ?_
  have hr1 := iI_rng (xs (i + 1))
  refine lv_aload_n hx hb dL_law_644 rfl (lv_at hl 3 rfl) ?_
  refine lv_iload_n hx hb dL_law_645 rfl (lv_at hl 0 rfl) ?_
  refine jz_const C dL_law_646 ?_
  refine jz_iadd C dL_law_647 ?_
  refine jl_sld C hX hbl hbA hS (i + 2) (by omega) (by omega) hL dL_law_648 ?_
  have hr2 := iI_rng (xs (i + 2))
  refine jl_V C hl.1 hQ hD hap (jpreV hE hP 3 0 rfl rfl) (c_X3_reading (A := AC _) (AC.own hD) ((xs (i + 1)).toInt) ((xs (i + 2)).toInt) hV hr1 hr2) (cwV 2 C.2.2.2.2 gL_law_X3_reading rfl rfl rfl (by decide +kernel) ⟨Nat.le_of_ble_eq_true rfl, Nat.le_of_ble_eq_true rfl⟩) (As := [.int (iI (xs (i + 1)).toInt), .int (iI (xs (i + 2)).toInt)]) (hn := rfl) (hst := rfl) (rest := []) (hW := Nat.le_of_ble_eq_true rfl) (hdg := dL_law_649) (hf := hce) hS (fun v9 u9 H locs hq9 hG9 hO9 hS => ?_)
  obtain ⟨I2, R2⟩ := u9
  obtain ⟨hv9, hI9, hR9⟩ := hq9
  subst hv9
  have hI9 : I2 = (k_X3_reading I R ((xs (i + 1)).toInt) ((xs (i + 2)).toInt)).2.1 := hI9
  have hQ := hO9
  have hP : va_P D vwCl (wC cI cS ad I2 R2) H := hG9
  have hap : Apt (wC cI cS ad I2 R2) (wM cI am F R') := Apt_C hap
  have hD : va_D (fun q => s.heap.size ≤ q) (wC cI cS ad I2 R2) := jDC hD
  refine lv_aload_n hx hb dL_law_652 rfl (lv_at hl 1 rfl) ?_
  refine lv_aload_n hx hb dL_law_653 rfl (lv_at hl 3 rfl) ?_
  refine lv_iload_n hx hb dL_law_654 rfl (lv_at hl 0 rfl) ?_
  refine jz_const C dL_law_655 ?_
  refine jz_iadd C dL_law_656 ?_
  refine jl_sld C hX hbl hbA hS (i + 1) (by omega) (by omega) hL dL_law_657 ?_
  refine lv_aload_n hx hb dL_law_658 rfl (lv_at hl 3 rfl) ?_
  refine lv_iload_n hx hb dL_law_659 rfl (lv_at hl 0 rfl) ?_
  refine jz_const C dL_law_660 ?_
  refine jz_iadd C dL_law_661 ?_
  refine jl_sld C hX hbl hbA hS (i + 2) (by omega) (by omega) hL dL_law_662 ?_
  refine jl_V C hl.1 hP hDM hap.symm (jpreV hE hQ 4 0 rfl rfl) (c_X4_reading (A := AC _) (AC.own hDM) ((xs (i + 1)).toInt) ((xs (i + 2)).toInt) hM9 hr1 hr2) (cwV 2 C.2.2.2.2 gL_law_X4_reading rfl rfl rfl (by decide +kernel) ⟨Nat.le_of_ble_eq_true rfl, Nat.le_of_ble_eq_true rfl⟩) (As := [.int (iI (xs (i + 1)).toInt), .int (iI (xs (i + 2)).toInt)]) (hn := rfl) (hst := rfl) (rest := [.int (iI ((k_X3_reading I R ((xs (i + 1)).toInt) ((xs (i + 2)).toInt)).1))]) (hW := Nat.le_of_ble_eq_true rfl) (hdg := dL_law_663) (hf := hce) hS (fun v9 u9 H locs hq9 hG9 hO9 hS => ?_)
  obtain ⟨F2, R2'⟩ := u9
  obtain ⟨hv9, hF9, hM9r⟩ := hq9
  subst hv9
  have hF9 : F2 = (k_X4_reading F R' ((xs (i + 1)).toInt) ((xs (i + 2)).toInt)).2.1 := hF9
  have hQ : va_P D vwCl (wM cI am F2 R2') H := hG9
  have hP := hO9
  have heqs := (eq_reading hst ((xs (i + 1)).toInt) ((xs (i + 2)).toInt))
  have heq : ((k_X3_reading I R ((xs (i + 1)).toInt) ((xs (i + 2)).toInt)).1 : Int) = (k_X4_reading F R' ((xs (i + 1)).toInt) ((xs (i + 2)).toInt)).1 := heqs.1
  have hst1 := heqs.2
  have hst2 : St I2 R2 F2 R2' := by
    rw [hI9]
    rw [hF9]
    rw [show R2' = (k_X4_reading F R' ((xs (i + 1)).toInt) ((xs (i + 2)).toInt)).2.2 from hM9r]
    exact (hst1.jq hR9)
  exact lv_icmp_eq (tgt := 1141) hx hb dL_law_666 (by decide) (fun _ => kk _ _ ⟨ad, am, I2, R2, F2, R2', rfl, rfl, hP, hD, hQ, jDM hDM, Apt_M hap, hst2⟩ hS) (fun hne => absurd (congrArg iI heq) hne)
set_option maxHeartbeats 4000000 in
set_option maxRecDepth 100000 in
theorem law_17 {p : Program} {l : Launch} {e : Env} {s : State} {m : MethodId} {below : List Frame} {meth : Method} {c : Code} {cells slots : Nat} {Q : State → Prop} {b L : Nat} {xs : Nat → Int32} {D : va_G} {cI cS : ClassId} {a0 m0 : Nat} (C : CallFix p m c cL_law 4 s #[Value.ref b] wsL_law RL) (hX : va_X b L xs s s.heap) (hbl : b < s.heap.size) (hE : jE D cI cS s) (hT0 : jT (fun q => s.heap.size ≤ q) s s.heap) (hL : L ≤ 3072) (hce : cells ≤ room_1.cells ∧ slots ≤ room_1.slots) {i : Nat} (hi : i + 6 ≤ L) {H : Heap} {locs : List Loc} {ls : Array Slot} (hI : Inv (fun q => s.heap.size ≤ q) D cI cS a0 m0 H) (hS : va_S (fun q => s.heap.size ≤ q) s.heap H locs) (hl : lv_has ls 4 [(3, .int (iI (i : Int))), (2, .ref m0), (1, .ref a0), (0, .ref b)])
    (kk : ∀ (H1 : Heap) (locs1 : List Loc), Inv (fun q => s.heap.size ≤ q) D cI cS a0 m0 H1 → va_S (fun q => s.heap.size ≤ q) s.heap H1 locs1 → W p l e room_1 s m #[Value.ref b] below meth c H1 locs1 cells slots Q (F0 m 1141 ls [])) : W p l e room_1 s m #[Value.ref b] below meth c H locs cells slots Q (F0 m 671 ls []) := by
  obtain ⟨ad, am, I, R, F, R', rfl, rfl, hP, hD, hQ, hDM, hap, hst⟩ := hI
  have hx := C.1
  have hb := C.2.1
  have hbA : ¬ (fun q => s.heap.size ≤ q) b := fun q => absurd hbl (Nat.not_lt.mpr q)
  have hV := hst.vi
  have hM9 := hst.mv
  refine lv_aload_n hx hb dL_law_671 rfl (lv_at hl 2 rfl) ?_
  refine lv_aload_n hx hb dL_law_672 rfl (lv_at hl 3 rfl) ?_
  refine lv_iload_n hx hb dL_law_673 rfl (lv_at hl 0 rfl) ?_
  refine jz_const C dL_law_674 ?_
  refine jz_iadd C dL_law_675 ?_
  refine jl_sld C hX hbl hbA hS (i + 1) (by omega) (by omega) hL dL_law_676 ?_
  have hr1 := iI_rng (xs (i + 1))
  refine jl_V C hl.1 hQ hD hap (jpreV hE hP 3 0 rfl rfl) (c_X3_back (A := AC _) (AC.own hD) ((xs (i + 1)).toInt) hV hr1) (cwV 1 C.2.2.2.2 gL_law_X3_back rfl rfl rfl (by decide +kernel) ⟨Nat.le_of_ble_eq_true rfl, Nat.le_of_ble_eq_true rfl⟩) (As := [.int (iI (xs (i + 1)).toInt)]) (hn := rfl) (hst := rfl) (rest := []) (hW := Nat.le_of_ble_eq_true rfl) (hdg := dL_law_677) (hf := hce) hS (fun v9 u9 H locs hq9 hG9 hO9 hS => ?_)
  obtain ⟨I2, R2⟩ := u9
  obtain ⟨hv9, hI9, hR9⟩ := hq9
  subst hv9
  have hI9 : I2 = (k_X3_back I R ((xs (i + 1)).toInt)).2.1 := hI9
  have hQ := hO9
  have hP : va_P D vwCl (wC cI cS ad I2 R2) H := hG9
  have hap : Apt (wC cI cS ad I2 R2) (wM cI am F R') := Apt_C hap
  have hD : va_D (fun q => s.heap.size ≤ q) (wC cI cS ad I2 R2) := jDC hD
  refine lv_aload_n hx hb dL_law_680 rfl (lv_at hl 1 rfl) ?_
  refine lv_aload_n hx hb dL_law_681 rfl (lv_at hl 3 rfl) ?_
  refine lv_iload_n hx hb dL_law_682 rfl (lv_at hl 0 rfl) ?_
  refine jz_const C dL_law_683 ?_
  refine jz_iadd C dL_law_684 ?_
  refine jl_sld C hX hbl hbA hS (i + 1) (by omega) (by omega) hL dL_law_685 ?_
  refine jl_V C hl.1 hP hDM hap.symm (jpreV hE hQ 4 0 rfl rfl) (c_X4_back (A := AC _) (AC.own hDM) ((xs (i + 1)).toInt) hM9 hr1) (cwV 1 C.2.2.2.2 gL_law_X4_back rfl rfl rfl (by decide +kernel) ⟨Nat.le_of_ble_eq_true rfl, Nat.le_of_ble_eq_true rfl⟩) (As := [.int (iI (xs (i + 1)).toInt)]) (hn := rfl) (hst := rfl) (rest := [.int (iI ((k_X3_back I R ((xs (i + 1)).toInt)).1))]) (hW := Nat.le_of_ble_eq_true rfl) (hdg := dL_law_686) (hf := hce) hS (fun v9 u9 H locs hq9 hG9 hO9 hS => ?_)
  obtain ⟨F2, R2'⟩ := u9
  obtain ⟨hv9, hF9, hM9r⟩ := hq9
  subst hv9
  have hF9 : F2 = (k_X4_back F R' ((xs (i + 1)).toInt)).2.1 := hF9
  have hQ : va_P D vwCl (wM cI am F2 R2') H := hG9
  have hP := hO9
  have heqs := (eq_back hst ((xs (i + 1)).toInt))
  have heq : ((k_X3_back I R ((xs (i + 1)).toInt)).1 : Int) = (k_X4_back F R' ((xs (i + 1)).toInt)).1 := heqs.1
  have hst1 := heqs.2
  have hst2 : St I2 R2 F2 R2' := by
    rw [hI9]
    rw [hF9]
    rw [show R2' = (k_X4_back F R' ((xs (i + 1)).toInt)).2.2 from hM9r]
    exact (hst1.jq hR9)
  exact lv_icmp_eq (tgt := 1141) hx hb dL_law_689 (by decide) (fun _ => kk _ _ ⟨ad, am, I2, R2, F2, R2', rfl, rfl, hP, hD, hQ, jDM hDM, Apt_M hap, hst2⟩ hS) (fun hne => absurd (congrArg iI heq) hne)
set_option maxHeartbeats 4000000 in
set_option maxRecDepth 100000 in
theorem law_18 {p : Program} {l : Launch} {e : Env} {s : State} {m : MethodId} {below : List Frame} {meth : Method} {c : Code} {cells slots : Nat} {Q : State → Prop} {b L : Nat} {xs : Nat → Int32} {D : va_G} {cI cS : ClassId} {a0 m0 : Nat} (C : CallFix p m c cL_law 4 s #[Value.ref b] wsL_law RL) (hX : va_X b L xs s s.heap) (hbl : b < s.heap.size) (hE : jE D cI cS s) (hT0 : jT (fun q => s.heap.size ≤ q) s s.heap) (hL : L ≤ 3072) (hce : cells ≤ room_1.cells ∧ slots ≤ room_1.slots) {i : Nat} (hi : i + 6 ≤ L) {H : Heap} {locs : List Loc} {ls : Array Slot} (hI : Inv (fun q => s.heap.size ≤ q) D cI cS a0 m0 H) (hS : va_S (fun q => s.heap.size ≤ q) s.heap H locs) (hl : lv_has ls 4 [(3, .int (iI (i : Int))), (2, .ref m0), (1, .ref a0), (0, .ref b)])
    (kk : ∀ (H1 : Heap) (locs1 : List Loc), Inv (fun q => s.heap.size ≤ q) D cI cS a0 m0 H1 → va_S (fun q => s.heap.size ≤ q) s.heap H1 locs1 → W p l e room_1 s m #[Value.ref b] below meth c H1 locs1 cells slots Q (F0 m 1141 ls [])) : W p l e room_1 s m #[Value.ref b] below meth c H locs cells slots Q (F0 m 694 ls []) := by
  obtain ⟨ad, am, I, R, F, R', rfl, rfl, hP, hD, hQ, hDM, hap, hst⟩ := hI
  have hx := C.1
  have hb := C.2.1
  have hbA : ¬ (fun q => s.heap.size ≤ q) b := fun q => absurd hbl (Nat.not_lt.mpr q)
  have hV := hst.vi
  have hM9 := hst.mv
  refine lv_aload_n hx hb dL_law_694 rfl (lv_at hl 2 rfl) ?_
  refine lv_aload_n hx hb dL_law_695 rfl (lv_at hl 3 rfl) ?_
  refine lv_iload_n hx hb dL_law_696 rfl (lv_at hl 0 rfl) ?_
  refine jz_const C dL_law_697 ?_
  refine jz_iadd C dL_law_698 ?_
  refine jl_sld C hX hbl hbA hS (i + 1) (by omega) (by omega) hL dL_law_699 ?_
  have hr1 := iI_rng (xs (i + 1))
  refine jc_V C hl.1 (jpreV hE hP 3 0 rfl rfl) (c_X3_settings ((xs (i + 1)).toInt) hV hr1) (cwV 1 C.2.2.2.2 gL_law_X3_settings rfl rfl rfl (by decide +kernel) ⟨Nat.le_of_ble_eq_true rfl, Nat.le_of_ble_eq_true rfl⟩) (As := [.int (iI (xs (i + 1)).toInt)]) (v := .int (iI (k_X3_settings I R ((xs (i + 1)).toInt)))) (hn := rfl) (hst := rfl) (rest := []) (hW := Nat.le_of_ble_eq_true rfl) (hdg := dL_law_700) (hf := hce) ?_
  refine lv_aload_n hx hb dL_law_703 rfl (lv_at hl 1 rfl) ?_
  refine lv_aload_n hx hb dL_law_704 rfl (lv_at hl 3 rfl) ?_
  refine lv_iload_n hx hb dL_law_705 rfl (lv_at hl 0 rfl) ?_
  refine jz_const C dL_law_706 ?_
  refine jz_iadd C dL_law_707 ?_
  refine jl_sld C hX hbl hbA hS (i + 1) (by omega) (by omega) hL dL_law_708 ?_
  refine jl_V C hl.1 hP hDM hap.symm (jpreV hE hQ 4 0 rfl rfl) (c_X4_settings (A := AC _) (AC.own hDM) ((xs (i + 1)).toInt) hM9 hr1) (cwV 1 C.2.2.2.2 gL_law_X4_settings rfl rfl rfl (by decide +kernel) ⟨Nat.le_of_ble_eq_true rfl, Nat.le_of_ble_eq_true rfl⟩) (As := [.int (iI (xs (i + 1)).toInt)]) (hn := rfl) (hst := rfl) (rest := [.int (iI (k_X3_settings I R ((xs (i + 1)).toInt)))]) (hW := Nat.le_of_ble_eq_true rfl) (hdg := dL_law_709) (hf := hce) hS (fun v9 u9 H locs hq9 hG9 hO9 hS => ?_)
  obtain ⟨F2, R2'⟩ := u9
  obtain ⟨hv9, hF9, hM9r⟩ := hq9
  subst hv9
  have hF9 : F2 = (k_X4_settings F R' ((xs (i + 1)).toInt)).2.1 := hF9
  have hQ : va_P D vwCl (wM cI am F2 R2') H := hG9
  have hP := hO9
  have heqs := (eq_settings hst ((xs (i + 1)).toInt))
  have heq : (k_X3_settings I R ((xs (i + 1)).toInt) : Int) = (k_X4_settings F R' ((xs (i + 1)).toInt)).1 := heqs.1
  have hst1 : St I R (k_X4_settings F R' ((xs (i + 1)).toInt)).2.1 (k_X4_settings F R' ((xs (i + 1)).toInt)).2.2 := by rw [heqs.2]; exact hst
  have hst2 : St I R F2 R2' := by
    rw [hF9]
    rw [show R2' = (k_X4_settings F R' ((xs (i + 1)).toInt)).2.2 from hM9r]
    exact hst1
  exact lv_icmp_eq (tgt := 1141) hx hb dL_law_712 (by decide) (fun _ => kk _ _ ⟨ad, am, I, R, F2, R2', rfl, rfl, hP, hD, hQ, jDM hDM, Apt_M hap, hst2⟩ hS) (fun hne => absurd (congrArg iI heq) hne)
set_option maxHeartbeats 4000000 in
set_option maxRecDepth 100000 in
theorem law_19 {p : Program} {l : Launch} {e : Env} {s : State} {m : MethodId} {below : List Frame} {meth : Method} {c : Code} {cells slots : Nat} {Q : State → Prop} {b L : Nat} {xs : Nat → Int32} {D : va_G} {cI cS : ClassId} {a0 m0 : Nat} (C : CallFix p m c cL_law 4 s #[Value.ref b] wsL_law RL) (hX : va_X b L xs s s.heap) (hbl : b < s.heap.size) (hE : jE D cI cS s) (hT0 : jT (fun q => s.heap.size ≤ q) s s.heap) (hL : L ≤ 3072) (hce : cells ≤ room_1.cells ∧ slots ≤ room_1.slots) {i : Nat} (hi : i + 6 ≤ L) {H : Heap} {locs : List Loc} {ls : Array Slot} (hI : Inv (fun q => s.heap.size ≤ q) D cI cS a0 m0 H) (hS : va_S (fun q => s.heap.size ≤ q) s.heap H locs) (hl : lv_has ls 4 [(3, .int (iI (i : Int))), (2, .ref m0), (1, .ref a0), (0, .ref b)])
    (kk : ∀ (H1 : Heap) (locs1 : List Loc), Inv (fun q => s.heap.size ≤ q) D cI cS a0 m0 H1 → va_S (fun q => s.heap.size ≤ q) s.heap H1 locs1 → W p l e room_1 s m #[Value.ref b] below meth c H1 locs1 cells slots Q (F0 m 1141 ls [])) : W p l e room_1 s m #[Value.ref b] below meth c H locs cells slots Q (F0 m 717 ls []) := by
  obtain ⟨ad, am, I, R, F, R', rfl, rfl, hP, hD, hQ, hDM, hap, hst⟩ := hI
  have hx := C.1
  have hb := C.2.1
  have hbA : ¬ (fun q => s.heap.size ≤ q) b := fun q => absurd hbl (Nat.not_lt.mpr q)
  have hV := hst.vi
  have hM9 := hst.mv
  refine lv_aload_n hx hb dL_law_717 rfl (lv_at hl 2 rfl) ?_
  refine jl_V C hl.1 hQ hD hap (jpreV hE hP 3 0 rfl rfl) (c_X3_laws (A := AC _) (AC.own hD)  hV) (cwV 0 C.2.2.2.2 gL_law_X3_laws rfl rfl rfl (by decide +kernel) ⟨Nat.le_of_ble_eq_true rfl, Nat.le_of_ble_eq_true rfl⟩) (As := []) (hn := rfl) (hst := rfl) (rest := []) (hW := Nat.le_of_ble_eq_true rfl) (hdg := dL_law_718) (hf := hce) hS (fun v9 u9 H locs hq9 hG9 hO9 hS => ?_)
  obtain ⟨I2, R2⟩ := u9
  obtain ⟨hv9, hI9, hR9⟩ := hq9
  subst hv9
  have hI9 : I2 = (k_X3_laws I R ).2.1 := hI9
  have hQ := hO9
  have hP : va_P D vwCl (wC cI cS ad I2 R2) H := hG9
  have hap : Apt (wC cI cS ad I2 R2) (wM cI am F R') := Apt_C hap
  have hD : va_D (fun q => s.heap.size ≤ q) (wC cI cS ad I2 R2) := jDC hD
  refine lv_aload_n hx hb dL_law_721 rfl (lv_at hl 1 rfl) ?_
  refine jl_V C hl.1 hP hDM hap.symm (jpreV hE hQ 4 0 rfl rfl) (c_X4_laws (A := AC _) (AC.own hDM)  hM9) (cwV 0 C.2.2.2.2 gL_law_X4_laws rfl rfl rfl (by decide +kernel) ⟨Nat.le_of_ble_eq_true rfl, Nat.le_of_ble_eq_true rfl⟩) (As := []) (hn := rfl) (hst := rfl) (rest := [.int (iI ((k_X3_laws I R ).1))]) (hW := Nat.le_of_ble_eq_true rfl) (hdg := dL_law_722) (hf := hce) hS (fun v9 u9 H locs hq9 hG9 hO9 hS => ?_)
  obtain ⟨F2, R2'⟩ := u9
  obtain ⟨hv9, hF9, hM9r⟩ := hq9
  subst hv9
  have hF9 : F2 = (k_X4_laws F R' ).2.1 := hF9
  have hQ : va_P D vwCl (wM cI am F2 R2') H := hG9
  have hP := hO9
  have heqs := (eq_laws hst )
  have heq : ((k_X3_laws I R ).1 : Int) = (k_X4_laws F R' ).1 := heqs.1
  have hst1 : St (k_X3_laws I R ).2.1 (k_X3_laws I R ).2.2 (k_X4_laws F R' ).2.1 (k_X4_laws F R' ).2.2 := by rw [heqs.2.1, heqs.2.2]; exact hst
  have hst2 : St I2 R2 F2 R2' := by
    rw [hI9]
    rw [hF9]
    rw [show R2' = (k_X4_laws F R' ).2.2 from hM9r]
    exact (hst1.jq hR9)
  exact lv_icmp_eq (tgt := 1141) hx hb dL_law_725 (by decide) (fun _ => kk _ _ ⟨ad, am, I2, R2, F2, R2', rfl, rfl, hP, hD, hQ, jDM hDM, Apt_M hap, hst2⟩ hS) (fun hne => absurd (congrArg iI heq) hne)
set_option maxHeartbeats 4000000 in
set_option maxRecDepth 100000 in
theorem law_20 {p : Program} {l : Launch} {e : Env} {s : State} {m : MethodId} {below : List Frame} {meth : Method} {c : Code} {cells slots : Nat} {Q : State → Prop} {b L : Nat} {xs : Nat → Int32} {D : va_G} {cI cS : ClassId} {a0 m0 : Nat} (C : CallFix p m c cL_law 4 s #[Value.ref b] wsL_law RL) (hX : va_X b L xs s s.heap) (hbl : b < s.heap.size) (hE : jE D cI cS s) (hT0 : jT (fun q => s.heap.size ≤ q) s s.heap) (hL : L ≤ 3072) (hce : cells ≤ room_1.cells ∧ slots ≤ room_1.slots) {i : Nat} (hi : i + 6 ≤ L) {H : Heap} {locs : List Loc} {ls : Array Slot} (hI : Inv (fun q => s.heap.size ≤ q) D cI cS a0 m0 H) (hS : va_S (fun q => s.heap.size ≤ q) s.heap H locs) (hl : lv_has ls 4 [(3, .int (iI (i : Int))), (2, .ref m0), (1, .ref a0), (0, .ref b)])
    (kk : ∀ (H1 : Heap) (locs1 : List Loc), Inv (fun q => s.heap.size ≤ q) D cI cS a0 m0 H1 → va_S (fun q => s.heap.size ≤ q) s.heap H1 locs1 → W p l e room_1 s m #[Value.ref b] below meth c H1 locs1 cells slots Q (F0 m 1141 ls [])) : W p l e room_1 s m #[Value.ref b] below meth c H locs cells slots Q (F0 m 730 ls []) := by
  obtain ⟨ad, am, I, R, F, R', rfl, rfl, hP, hD, hQ, hDM, hap, hst⟩ := hI
  have hx := C.1
  have hb := C.2.1
  have hbA : ¬ (fun q => s.heap.size ≤ q) b := fun q => absurd hbl (Nat.not_lt.mpr q)
  have hV := hst.vi
  have hM9 := hst.mv
  refine lv_aload_n hx hb dL_law_730 rfl (lv_at hl 2 rfl) ?_
  refine lv_aload_n hx hb dL_law_731 rfl (lv_at hl 3 rfl) ?_
  refine lv_iload_n hx hb dL_law_732 rfl (lv_at hl 0 rfl) ?_
  refine jz_const C dL_law_733 ?_
  refine jz_iadd C dL_law_734 ?_
  refine jl_sld C hX hbl hbA hS (i + 1) (by omega) (by omega) hL dL_law_735 ?_
  have hr1 := iI_rng (xs (i + 1))
  refine jl_V C hl.1 hQ hD hap (jpreV hE hP 3 0 rfl rfl) (c_X3_powers (A := AC _) (AC.own hD) ((xs (i + 1)).toInt) hV hr1) (cwV 1 C.2.2.2.2 gL_law_X3_powers rfl rfl rfl (by decide +kernel) ⟨Nat.le_of_ble_eq_true rfl, Nat.le_of_ble_eq_true rfl⟩) (As := [.int (iI (xs (i + 1)).toInt)]) (hn := rfl) (hst := rfl) (rest := []) (hW := Nat.le_of_ble_eq_true rfl) (hdg := dL_law_736) (hf := hce) hS (fun v9 u9 H locs hq9 hG9 hO9 hS => ?_)
  obtain ⟨I2, R2⟩ := u9
  obtain ⟨hv9, hI9, hR9⟩ := hq9
  subst hv9
  have hI9 : I2 = (k_X3_powers I R ((xs (i + 1)).toInt)).2.1 := hI9
  have hQ := hO9
  have hP : va_P D vwCl (wC cI cS ad I2 R2) H := hG9
  have hap : Apt (wC cI cS ad I2 R2) (wM cI am F R') := Apt_C hap
  have hD : va_D (fun q => s.heap.size ≤ q) (wC cI cS ad I2 R2) := jDC hD
  refine lv_aload_n hx hb dL_law_739 rfl (lv_at hl 1 rfl) ?_
  refine lv_aload_n hx hb dL_law_740 rfl (lv_at hl 3 rfl) ?_
  refine lv_iload_n hx hb dL_law_741 rfl (lv_at hl 0 rfl) ?_
  refine jz_const C dL_law_742 ?_
  refine jz_iadd C dL_law_743 ?_
  refine jl_sld C hX hbl hbA hS (i + 1) (by omega) (by omega) hL dL_law_744 ?_
  refine jl_V C hl.1 hP hDM hap.symm (jpreV hE hQ 4 0 rfl rfl) (c_X4_powers (A := AC _) (AC.own hDM) ((xs (i + 1)).toInt) hM9 hr1) (cwV 1 C.2.2.2.2 gL_law_X4_powers rfl rfl rfl (by decide +kernel) ⟨Nat.le_of_ble_eq_true rfl, Nat.le_of_ble_eq_true rfl⟩) (As := [.int (iI (xs (i + 1)).toInt)]) (hn := rfl) (hst := rfl) (rest := [.int (iI ((k_X3_powers I R ((xs (i + 1)).toInt)).1))]) (hW := Nat.le_of_ble_eq_true rfl) (hdg := dL_law_745) (hf := hce) hS (fun v9 u9 H locs hq9 hG9 hO9 hS => ?_)
  obtain ⟨F2, R2'⟩ := u9
  obtain ⟨hv9, hF9, hM9r⟩ := hq9
  subst hv9
  have hF9 : F2 = (k_X4_powers F R' ((xs (i + 1)).toInt)).2.1 := hF9
  have hQ : va_P D vwCl (wM cI am F2 R2') H := hG9
  have hP := hO9
  have heqs := (eq_powers hst ((xs (i + 1)).toInt))
  have heq : ((k_X3_powers I R ((xs (i + 1)).toInt)).1 : Int) = (k_X4_powers F R' ((xs (i + 1)).toInt)).1 := heqs.1
  have hst1 : St (k_X3_powers I R ((xs (i + 1)).toInt)).2.1 (k_X3_powers I R ((xs (i + 1)).toInt)).2.2 (k_X4_powers F R' ((xs (i + 1)).toInt)).2.1 (k_X4_powers F R' ((xs (i + 1)).toInt)).2.2 := by rw [heqs.2.1, heqs.2.2]; exact hst
  have hst2 : St I2 R2 F2 R2' := by
    rw [hI9]
    rw [hF9]
    rw [show R2' = (k_X4_powers F R' ((xs (i + 1)).toInt)).2.2 from hM9r]
    exact (hst1.jq hR9)
  exact lv_icmp_eq (tgt := 1141) hx hb dL_law_748 (by decide) (fun _ => kk _ _ ⟨ad, am, I2, R2, F2, R2', rfl, rfl, hP, hD, hQ, jDM hDM, Apt_M hap, hst2⟩ hS) (fun hne => absurd (congrArg iI heq) hne)
set_option maxHeartbeats 4000000 in
set_option maxRecDepth 100000 in
theorem law_21 {p : Program} {l : Launch} {e : Env} {s : State} {m : MethodId} {below : List Frame} {meth : Method} {c : Code} {cells slots : Nat} {Q : State → Prop} {b L : Nat} {xs : Nat → Int32} {D : va_G} {cI cS : ClassId} {a0 m0 : Nat} (C : CallFix p m c cL_law 4 s #[Value.ref b] wsL_law RL) (hX : va_X b L xs s s.heap) (hbl : b < s.heap.size) (hE : jE D cI cS s) (hT0 : jT (fun q => s.heap.size ≤ q) s s.heap) (hL : L ≤ 3072) (hce : cells ≤ room_1.cells ∧ slots ≤ room_1.slots) {i : Nat} (hi : i + 6 ≤ L) {H : Heap} {locs : List Loc} {ls : Array Slot} (hI : Inv (fun q => s.heap.size ≤ q) D cI cS a0 m0 H) (hS : va_S (fun q => s.heap.size ≤ q) s.heap H locs) (hl : lv_has ls 4 [(3, .int (iI (i : Int))), (2, .ref m0), (1, .ref a0), (0, .ref b)])
    (kk : ∀ (H1 : Heap) (locs1 : List Loc), Inv (fun q => s.heap.size ≤ q) D cI cS a0 m0 H1 → va_S (fun q => s.heap.size ≤ q) s.heap H1 locs1 → W p l e room_1 s m #[Value.ref b] below meth c H1 locs1 cells slots Q (F0 m 1141 ls [])) : W p l e room_1 s m #[Value.ref b] below meth c H locs cells slots Q (F0 m 753 ls []) := by
  obtain ⟨ad, am, I, R, F, R', rfl, rfl, hP, hD, hQ, hDM, hap, hst⟩ := hI
  have hx := C.1
  have hb := C.2.1
  have hbA : ¬ (fun q => s.heap.size ≤ q) b := fun q => absurd hbl (Nat.not_lt.mpr q)
  have hV := hst.vi
  have hM9 := hst.mv
  refine lv_aload_n hx hb dL_law_753 rfl (lv_at hl 2 rfl) ?_
  refine lv_aload_n hx hb dL_law_754 rfl (lv_at hl 3 rfl) ?_
  refine lv_iload_n hx hb dL_law_755 rfl (lv_at hl 0 rfl) ?_
  refine jz_const C dL_law_756 ?_
  refine jz_iadd C dL_law_757 ?_
  refine jl_sld C hX hbl hbA hS (i + 1) (by omega) (by omega) hL dL_law_758 ?_
  have hr1 := iI_rng (xs (i + 1))
  refine lv_aload_n hx hb dL_law_759 rfl (lv_at hl 3 rfl) ?_
  refine lv_iload_n hx hb dL_law_760 rfl (lv_at hl 0 rfl) ?_
  refine jz_const C dL_law_761 ?_
  refine jz_iadd C dL_law_762 ?_
  refine jl_sld C hX hbl hbA hS (i + 2) (by omega) (by omega) hL dL_law_763 ?_
  have hr2 := iI_rng (xs (i + 2))
  refine lv_aload_n hx hb dL_law_764 rfl (lv_at hl 3 rfl) ?_
  refine lv_iload_n hx hb dL_law_765 rfl (lv_at hl 0 rfl) ?_
  refine jz_const C dL_law_766 ?_
  refine jz_iadd C dL_law_767 ?_
  refine jl_sld C hX hbl hbA hS (i + 3) (by omega) (by omega) hL dL_law_768 ?_
  have hr3 := iI_rng (xs (i + 3))
  refine jc_V C hl.1 (jpreV hE hP 3 0 rfl rfl) (c_X3_odds ((xs (i + 1)).toInt) ((xs (i + 2)).toInt) ((xs (i + 3)).toInt) hV hr1 hr2 hr3) (cwV 3 C.2.2.2.2 gL_law_X3_odds rfl rfl rfl (by decide +kernel) ⟨Nat.le_of_ble_eq_true rfl, Nat.le_of_ble_eq_true rfl⟩) (As := [.int (iI (xs (i + 1)).toInt), .int (iI (xs (i + 2)).toInt), .int (iI (xs (i + 3)).toInt)]) (v := .long (lI (k_X3_odds I R ((xs (i + 1)).toInt) ((xs (i + 2)).toInt) ((xs (i + 3)).toInt)))) (hn := rfl) (hst := rfl) (rest := []) (hW := Nat.le_of_ble_eq_true rfl) (hdg := dL_law_769) (hf := hce) ?_
  refine lv_aload_n hx hb dL_law_772 rfl (lv_at hl 1 rfl) ?_
  refine lv_aload_n hx hb dL_law_773 rfl (lv_at hl 3 rfl) ?_
  refine lv_iload_n hx hb dL_law_774 rfl (lv_at hl 0 rfl) ?_
  refine jz_const C dL_law_775 ?_
  refine jz_iadd C dL_law_776 ?_
  refine jl_sld C hX hbl hbA hS (i + 1) (by omega) (by omega) hL dL_law_777 ?_
  refine lv_aload_n hx hb dL_law_778 rfl (lv_at hl 3 rfl) ?_
  refine lv_iload_n hx hb dL_law_779 rfl (lv_at hl 0 rfl) ?_
  refine jz_const C dL_law_780 ?_
  refine jz_iadd C dL_law_781 ?_
  refine jl_sld C hX hbl hbA hS (i + 2) (by omega) (by omega) hL dL_law_782 ?_
  refine lv_aload_n hx hb dL_law_783 rfl (lv_at hl 3 rfl) ?_
  refine lv_iload_n hx hb dL_law_784 rfl (lv_at hl 0 rfl) ?_
  refine jz_const C dL_law_785 ?_
  refine jz_iadd C dL_law_786 ?_
  refine jl_sld C hX hbl hbA hS (i + 3) (by omega) (by omega) hL dL_law_787 ?_
  refine jl_V C hl.1 hP hDM hap.symm (jpreV hE hQ 4 0 rfl rfl) (c_X4_odds (A := AC _) (AC.own hDM) ((xs (i + 1)).toInt) ((xs (i + 2)).toInt) ((xs (i + 3)).toInt) hM9 hr1 hr2 hr3) (cwV 3 C.2.2.2.2 gL_law_X4_odds rfl rfl rfl (by decide +kernel) ⟨Nat.le_of_ble_eq_true rfl, Nat.le_of_ble_eq_true rfl⟩) (As := [.int (iI (xs (i + 1)).toInt), .int (iI (xs (i + 2)).toInt), .int (iI (xs (i + 3)).toInt)]) (hn := rfl) (hst := rfl) (rest := [.long (lI (k_X3_odds I R ((xs (i + 1)).toInt) ((xs (i + 2)).toInt) ((xs (i + 3)).toInt)))]) (hW := Nat.le_of_ble_eq_true rfl) (hdg := dL_law_788) (hf := hce) hS (fun v9 u9 H locs hq9 hG9 hO9 hS => ?_)
  obtain ⟨F2, R2'⟩ := u9
  obtain ⟨hv9, hF9, hM9r⟩ := hq9
  subst hv9
  have hF9 : F2 = (k_X4_odds F R' ((xs (i + 1)).toInt) ((xs (i + 2)).toInt) ((xs (i + 3)).toInt)).2.1 := hF9
  have hQ : va_P D vwCl (wM cI am F2 R2') H := hG9
  have hP := hO9
  have heqs := (eq_odds hst ((xs (i + 1)).toInt) ((xs (i + 2)).toInt) ((xs (i + 3)).toInt))
  have heq : (k_X3_odds I R ((xs (i + 1)).toInt) ((xs (i + 2)).toInt) ((xs (i + 3)).toInt) : Int) = (k_X4_odds F R' ((xs (i + 1)).toInt) ((xs (i + 2)).toInt) ((xs (i + 3)).toInt)).1 := heqs.1
  have hst1 : St I R (k_X4_odds F R' ((xs (i + 1)).toInt) ((xs (i + 2)).toInt) ((xs (i + 3)).toInt)).2.1 (k_X4_odds F R' ((xs (i + 1)).toInt) ((xs (i + 2)).toInt) ((xs (i + 3)).toInt)).2.2 := by rw [heqs.2]; exact hst
  have hst2 : St I R F2 R2' := by
    rw [hF9]
    rw [show R2' = (k_X4_odds F R' ((xs (i + 1)).toInt) ((xs (i + 2)).toInt) ((xs (i + 3)).toInt)).2.2 from hM9r]
    exact hst1
  refine W.lcmp hx hb dL_law_791 ?_
  rw [show lg_cmp (lI (k_X3_odds I R ((xs (i + 1)).toInt) ((xs (i + 2)).toInt) ((xs (i + 3)).toInt))) (lI ((k_X4_odds F R' ((xs (i + 1)).toInt) ((xs (i + 2)).toInt) ((xs (i + 3)).toInt)).1)) = 0 from (lg_cmp_eq _ _).mpr (congrArg lI heq)]
  exact lv_if_eq (tgt := 1141) hx hb dL_law_792 (by decide) (fun _ => kk _ _ ⟨ad, am, I, R, F2, R2', rfl, rfl, hP, hD, hQ, jDM hDM, Apt_M hap, hst2⟩ hS) (fun hne => absurd rfl hne)
set_option maxHeartbeats 4000000 in
set_option maxRecDepth 100000 in
theorem law_22 {p : Program} {l : Launch} {e : Env} {s : State} {m : MethodId} {below : List Frame} {meth : Method} {c : Code} {cells slots : Nat} {Q : State → Prop} {b L : Nat} {xs : Nat → Int32} {D : va_G} {cI cS : ClassId} {a0 m0 : Nat} (C : CallFix p m c cL_law 4 s #[Value.ref b] wsL_law RL) (hX : va_X b L xs s s.heap) (hbl : b < s.heap.size) (hE : jE D cI cS s) (hT0 : jT (fun q => s.heap.size ≤ q) s s.heap) (hL : L ≤ 3072) (hce : cells ≤ room_1.cells ∧ slots ≤ room_1.slots) {i : Nat} (hi : i + 6 ≤ L) {H : Heap} {locs : List Loc} {ls : Array Slot} (hI : Inv (fun q => s.heap.size ≤ q) D cI cS a0 m0 H) (hS : va_S (fun q => s.heap.size ≤ q) s.heap H locs) (hl : lv_has ls 4 [(3, .int (iI (i : Int))), (2, .ref m0), (1, .ref a0), (0, .ref b)])
    (kk : ∀ (H1 : Heap) (locs1 : List Loc), Inv (fun q => s.heap.size ≤ q) D cI cS a0 m0 H1 → va_S (fun q => s.heap.size ≤ q) s.heap H1 locs1 → W p l e room_1 s m #[Value.ref b] below meth c H1 locs1 cells slots Q (F0 m 1141 ls [])) : W p l e room_1 s m #[Value.ref b] below meth c H locs cells slots Q (F0 m 797 ls []) := by
  obtain ⟨ad, am, I, R, F, R', rfl, rfl, hP, hD, hQ, hDM, hap, hst⟩ := hI
  have hx := C.1
  have hb := C.2.1
  have hbA : ¬ (fun q => s.heap.size ≤ q) b := fun q => absurd hbl (Nat.not_lt.mpr q)
  have hV := hst.vi
  have hM9 := hst.mv
  refine lv_aload_n hx hb dL_law_797 rfl (lv_at hl 2 rfl) ?_
  refine lv_aload_n hx hb dL_law_798 rfl (lv_at hl 3 rfl) ?_
  refine lv_iload_n hx hb dL_law_799 rfl (lv_at hl 0 rfl) ?_
  refine jz_const C dL_law_800 ?_
  refine jz_iadd C dL_law_801 ?_
  refine jl_sld C hX hbl hbA hS (i + 1) (by omega) (by omega) hL dL_law_802 ?_
  have hr1 := iI_rng (xs (i + 1))
  refine lv_aload_n hx hb dL_law_803 rfl (lv_at hl 3 rfl) ?_
  refine lv_iload_n hx hb dL_law_804 rfl (lv_at hl 0 rfl) ?_
  refine jz_const C dL_law_805 ?_
  refine jz_iadd C dL_law_806 ?_
  refine jl_sld C hX hbl hbA hS (i + 2) (by omega) (by omega) hL dL_law_807 ?_
  have hr2 := iI_rng (xs (i + 2))
  refine lv_aload_n hx hb dL_law_808 rfl (lv_at hl 3 rfl) ?_
  refine lv_iload_n hx hb dL_law_809 rfl (lv_at hl 0 rfl) ?_
  refine jz_const C dL_law_810 ?_
  refine jz_iadd C dL_law_811 ?_
  refine jl_sld C hX hbl hbA hS (i + 3) (by omega) (by omega) hL dL_law_812 ?_
  have hr3 := iI_rng (xs (i + 3))
  refine jl_V C hl.1 hQ hD hap (jpreV hE hP 3 0 rfl rfl) (c_X3_sheet (A := AC _) (AC.own hD) ((xs (i + 1)).toInt) ((xs (i + 2)).toInt) ((xs (i + 3)).toInt) hV hr1 hr2 hr3) (cwV 3 C.2.2.2.2 gL_law_X3_sheet rfl rfl rfl (by decide +kernel) ⟨Nat.le_of_ble_eq_true rfl, Nat.le_of_ble_eq_true rfl⟩) (As := [.int (iI (xs (i + 1)).toInt), .int (iI (xs (i + 2)).toInt), .int (iI (xs (i + 3)).toInt)]) (hn := rfl) (hst := rfl) (rest := []) (hW := Nat.le_of_ble_eq_true rfl) (hdg := dL_law_813) (hf := hce) hS (fun v9 u9 H locs hq9 hG9 hO9 hS => ?_)
  obtain ⟨I2, R2⟩ := u9
  obtain ⟨hv9, hI9, hR9⟩ := hq9
  subst hv9
  have hI9 : I2 = (k_X3_sheet I R ((xs (i + 1)).toInt) ((xs (i + 2)).toInt) ((xs (i + 3)).toInt)).2.1 := hI9
  have hQ := hO9
  have hP : va_P D vwCl (wC cI cS ad I2 R2) H := hG9
  have hap : Apt (wC cI cS ad I2 R2) (wM cI am F R') := Apt_C hap
  have hD : va_D (fun q => s.heap.size ≤ q) (wC cI cS ad I2 R2) := jDC hD
  refine lv_aload_n hx hb dL_law_816 rfl (lv_at hl 1 rfl) ?_
  refine lv_aload_n hx hb dL_law_817 rfl (lv_at hl 3 rfl) ?_
  refine lv_iload_n hx hb dL_law_818 rfl (lv_at hl 0 rfl) ?_
  refine jz_const C dL_law_819 ?_
  refine jz_iadd C dL_law_820 ?_
  refine jl_sld C hX hbl hbA hS (i + 1) (by omega) (by omega) hL dL_law_821 ?_
  refine lv_aload_n hx hb dL_law_822 rfl (lv_at hl 3 rfl) ?_
  refine lv_iload_n hx hb dL_law_823 rfl (lv_at hl 0 rfl) ?_
  refine jz_const C dL_law_824 ?_
  refine jz_iadd C dL_law_825 ?_
  refine jl_sld C hX hbl hbA hS (i + 2) (by omega) (by omega) hL dL_law_826 ?_
  refine lv_aload_n hx hb dL_law_827 rfl (lv_at hl 3 rfl) ?_
  refine lv_iload_n hx hb dL_law_828 rfl (lv_at hl 0 rfl) ?_
  refine jz_const C dL_law_829 ?_
  refine jz_iadd C dL_law_830 ?_
  refine jl_sld C hX hbl hbA hS (i + 3) (by omega) (by omega) hL dL_law_831 ?_
  refine jl_V C hl.1 hP hDM hap.symm (jpreV hE hQ 4 0 rfl rfl) (c_X4_sheet (A := AC _) (AC.own hDM) ((xs (i + 1)).toInt) ((xs (i + 2)).toInt) ((xs (i + 3)).toInt) hM9 hr1 hr2 hr3) (cwV 3 C.2.2.2.2 gL_law_X4_sheet rfl rfl rfl (by decide +kernel) ⟨Nat.le_of_ble_eq_true rfl, Nat.le_of_ble_eq_true rfl⟩) (As := [.int (iI (xs (i + 1)).toInt), .int (iI (xs (i + 2)).toInt), .int (iI (xs (i + 3)).toInt)]) (hn := rfl) (hst := rfl) (rest := [.int (iI ((k_X3_sheet I R ((xs (i + 1)).toInt) ((xs (i + 2)).toInt) ((xs (i + 3)).toInt)).1))]) (hW := Nat.le_of_ble_eq_true rfl) (hdg := dL_law_832) (hf := hce) hS (fun v9 u9 H locs hq9 hG9 hO9 hS => ?_)
  obtain ⟨F2, R2'⟩ := u9
  obtain ⟨hv9, hF9, hM9r⟩ := hq9
  subst hv9
  have hF9 : F2 = (k_X4_sheet F R' ((xs (i + 1)).toInt) ((xs (i + 2)).toInt) ((xs (i + 3)).toInt)).2.1 := hF9
  have hQ : va_P D vwCl (wM cI am F2 R2') H := hG9
  have hP := hO9
  have heqs := (eq_sheet hst ((xs (i + 1)).toInt) ((xs (i + 2)).toInt) ((xs (i + 3)).toInt))
  have heq : ((k_X3_sheet I R ((xs (i + 1)).toInt) ((xs (i + 2)).toInt) ((xs (i + 3)).toInt)).1 : Int) = (k_X4_sheet F R' ((xs (i + 1)).toInt) ((xs (i + 2)).toInt) ((xs (i + 3)).toInt)).1 := heqs.1
  have hst1 := heqs.2
  have hst2 : St I2 R2 F2 R2' := by
    rw [hI9]
    rw [hF9]
    rw [show R2' = (k_X4_sheet F R' ((xs (i + 1)).toInt) ((xs (i + 2)).toInt) ((xs (i + 3)).toInt)).2.2 from hM9r]
    exact (hst1.jq hR9)
  exact lv_icmp_eq (tgt := 1141) hx hb dL_law_835 (by decide) (fun _ => kk _ _ ⟨ad, am, I2, R2, F2, R2', rfl, rfl, hP, hD, hQ, jDM hDM, Apt_M hap, hst2⟩ hS) (fun hne => absurd (congrArg iI heq) hne)
set_option maxHeartbeats 4000000 in
set_option maxRecDepth 100000 in
theorem law_23 {p : Program} {l : Launch} {e : Env} {s : State} {m : MethodId} {below : List Frame} {meth : Method} {c : Code} {cells slots : Nat} {Q : State → Prop} {b L : Nat} {xs : Nat → Int32} {D : va_G} {cI cS : ClassId} {a0 m0 : Nat} (C : CallFix p m c cL_law 4 s #[Value.ref b] wsL_law RL) (hX : va_X b L xs s s.heap) (hbl : b < s.heap.size) (hE : jE D cI cS s) (hT0 : jT (fun q => s.heap.size ≤ q) s s.heap) (hL : L ≤ 3072) (hce : cells ≤ room_1.cells ∧ slots ≤ room_1.slots) {i : Nat} (hi : i + 6 ≤ L) {H : Heap} {locs : List Loc} {ls : Array Slot} (hI : Inv (fun q => s.heap.size ≤ q) D cI cS a0 m0 H) (hS : va_S (fun q => s.heap.size ≤ q) s.heap H locs) (hl : lv_has ls 4 [(3, .int (iI (i : Int))), (2, .ref m0), (1, .ref a0), (0, .ref b)])
    (kk : ∀ (H1 : Heap) (locs1 : List Loc), Inv (fun q => s.heap.size ≤ q) D cI cS a0 m0 H1 → va_S (fun q => s.heap.size ≤ q) s.heap H1 locs1 → W p l e room_1 s m #[Value.ref b] below meth c H1 locs1 cells slots Q (F0 m 1141 ls [])) : W p l e room_1 s m #[Value.ref b] below meth c H locs cells slots Q (F0 m 840 ls []) := by
  obtain ⟨ad, am, I, R, F, R', rfl, rfl, hP, hD, hQ, hDM, hap, hst⟩ := hI
  have hx := C.1
  have hb := C.2.1
  have hbA : ¬ (fun q => s.heap.size ≤ q) b := fun q => absurd hbl (Nat.not_lt.mpr q)
  have hV := hst.vi
  have hM9 := hst.mv
  refine lv_aload_n hx hb dL_law_840 rfl (lv_at hl 2 rfl) ?_
  refine lv_aload_n hx hb dL_law_841 rfl (lv_at hl 3 rfl) ?_
  refine lv_iload_n hx hb dL_law_842 rfl (lv_at hl 0 rfl) ?_
  refine jz_const C dL_law_843 ?_
  refine jz_iadd C dL_law_844 ?_
  refine jl_sld C hX hbl hbA hS (i + 1) (by omega) (by omega) hL dL_law_845 ?_
  have hr1 := iI_rng (xs (i + 1))
  refine jl_V C hl.1 hQ hD hap (jpreV hE hP 3 0 rfl rfl) (c_X3_lose (A := AC _) (AC.own hD) ((xs (i + 1)).toInt) hV hr1) (cwV 1 C.2.2.2.2 gL_law_X3_lose rfl rfl rfl (by decide +kernel) ⟨Nat.le_of_ble_eq_true rfl, Nat.le_of_ble_eq_true rfl⟩) (As := [.int (iI (xs (i + 1)).toInt)]) (hn := rfl) (hst := rfl) (rest := []) (hW := Nat.le_of_ble_eq_true rfl) (hdg := dL_law_846) (hf := hce) hS (fun v9 u9 H locs hq9 hG9 hO9 hS => ?_)
  obtain ⟨I2, R2⟩ := u9
  obtain ⟨hv9, hI9, hR9⟩ := hq9
  subst hv9
  have hI9 : I2 = (k_X3_lose I R ((xs (i + 1)).toInt)).2.1 := hI9
  have hQ := hO9
  have hP : va_P D vwCl (wC cI cS ad I2 R2) H := hG9
  have hap : Apt (wC cI cS ad I2 R2) (wM cI am F R') := Apt_C hap
  have hD : va_D (fun q => s.heap.size ≤ q) (wC cI cS ad I2 R2) := jDC hD
  refine lv_aload_n hx hb dL_law_849 rfl (lv_at hl 1 rfl) ?_
  refine lv_aload_n hx hb dL_law_850 rfl (lv_at hl 3 rfl) ?_
  refine lv_iload_n hx hb dL_law_851 rfl (lv_at hl 0 rfl) ?_
  refine jz_const C dL_law_852 ?_
  refine jz_iadd C dL_law_853 ?_
  refine jl_sld C hX hbl hbA hS (i + 1) (by omega) (by omega) hL dL_law_854 ?_
  refine jl_V C hl.1 hP hDM hap.symm (jpreV hE hQ 4 0 rfl rfl) (c_X4_lose (A := AC _) (AC.own hDM) ((xs (i + 1)).toInt) hM9 hr1) (cwV 1 C.2.2.2.2 gL_law_X4_lose rfl rfl rfl (by decide +kernel) ⟨Nat.le_of_ble_eq_true rfl, Nat.le_of_ble_eq_true rfl⟩) (As := [.int (iI (xs (i + 1)).toInt)]) (hn := rfl) (hst := rfl) (rest := [.int (iI ((k_X3_lose I R ((xs (i + 1)).toInt)).1))]) (hW := Nat.le_of_ble_eq_true rfl) (hdg := dL_law_855) (hf := hce) hS (fun v9 u9 H locs hq9 hG9 hO9 hS => ?_)
  obtain ⟨F2, R2'⟩ := u9
  obtain ⟨hv9, hF9, hM9r⟩ := hq9
  subst hv9
  have hF9 : F2 = (k_X4_lose F R' ((xs (i + 1)).toInt)).2.1 := hF9
  have hQ : va_P D vwCl (wM cI am F2 R2') H := hG9
  have hP := hO9
  have heqs := (eq_lose hst ((xs (i + 1)).toInt))
  have heq : ((k_X3_lose I R ((xs (i + 1)).toInt)).1 : Int) = (k_X4_lose F R' ((xs (i + 1)).toInt)).1 := heqs.1
  have hst1 := heqs.2
  have hst2 : St I2 R2 F2 R2' := by
    rw [hI9]
    rw [hF9]
    rw [show R2' = (k_X4_lose F R' ((xs (i + 1)).toInt)).2.2 from hM9r]
    exact (hst1.jq hR9)
  exact lv_icmp_eq (tgt := 1141) hx hb dL_law_858 (by decide) (fun _ => kk _ _ ⟨ad, am, I2, R2, F2, R2', rfl, rfl, hP, hD, hQ, jDM hDM, Apt_M hap, hst2⟩ hS) (fun hne => absurd (congrArg iI heq) hne)
set_option maxHeartbeats 4000000 in
set_option maxRecDepth 100000 in
theorem law_24 {p : Program} {l : Launch} {e : Env} {s : State} {m : MethodId} {below : List Frame} {meth : Method} {c : Code} {cells slots : Nat} {Q : State → Prop} {b L : Nat} {xs : Nat → Int32} {D : va_G} {cI cS : ClassId} {a0 m0 : Nat} (C : CallFix p m c cL_law 4 s #[Value.ref b] wsL_law RL) (hX : va_X b L xs s s.heap) (hbl : b < s.heap.size) (hE : jE D cI cS s) (hT0 : jT (fun q => s.heap.size ≤ q) s s.heap) (hL : L ≤ 3072) (hce : cells ≤ room_1.cells ∧ slots ≤ room_1.slots) {i : Nat} (hi : i + 6 ≤ L) {H : Heap} {locs : List Loc} {ls : Array Slot} (hI : Inv (fun q => s.heap.size ≤ q) D cI cS a0 m0 H) (hS : va_S (fun q => s.heap.size ≤ q) s.heap H locs) (hl : lv_has ls 4 [(3, .int (iI (i : Int))), (2, .ref m0), (1, .ref a0), (0, .ref b)])
    (kk : ∀ (H1 : Heap) (locs1 : List Loc), Inv (fun q => s.heap.size ≤ q) D cI cS a0 m0 H1 → va_S (fun q => s.heap.size ≤ q) s.heap H1 locs1 → W p l e room_1 s m #[Value.ref b] below meth c H1 locs1 cells slots Q (F0 m 1141 ls [])) : W p l e room_1 s m #[Value.ref b] below meth c H locs cells slots Q (F0 m 863 ls []) := by
  obtain ⟨ad, am, I, R, F, R', rfl, rfl, hP, hD, hQ, hDM, hap, hst⟩ := hI
  have hx := C.1
  have hb := C.2.1
  have hbA : ¬ (fun q => s.heap.size ≤ q) b := fun q => absurd hbl (Nat.not_lt.mpr q)
  have hV := hst.vi
  have hM9 := hst.mv
  refine lv_aload_n hx hb dL_law_863 rfl (lv_at hl 2 rfl) ?_
  refine lv_aload_n hx hb dL_law_864 rfl (lv_at hl 3 rfl) ?_
  refine lv_iload_n hx hb dL_law_865 rfl (lv_at hl 0 rfl) ?_
  refine jz_const C dL_law_866 ?_
  refine jz_iadd C dL_law_867 ?_
  refine jl_sld C hX hbl hbA hS (i + 1) (by omega) (by omega) hL dL_law_868 ?_
  have hr1 := iI_rng (xs (i + 1))
  refine lv_aload_n hx hb dL_law_869 rfl (lv_at hl 3 rfl) ?_
  refine lv_iload_n hx hb dL_law_870 rfl (lv_at hl 0 rfl) ?_
  refine jz_const C dL_law_871 ?_
  refine jz_iadd C dL_law_872 ?_
  refine jl_sld C hX hbl hbA hS (i + 2) (by omega) (by omega) hL dL_law_873 ?_
  have hr2 := iI_rng (xs (i + 2))
  refine lv_aload_n hx hb dL_law_874 rfl (lv_at hl 3 rfl) ?_
  refine lv_iload_n hx hb dL_law_875 rfl (lv_at hl 0 rfl) ?_
  refine jz_const C dL_law_876 ?_
  refine jz_iadd C dL_law_877 ?_
  refine jl_sld C hX hbl hbA hS (i + 3) (by omega) (by omega) hL dL_law_878 ?_
  have hr3 := iI_rng (xs (i + 3))
  refine jl_V C hl.1 hQ hD hap (jpreV hE hP 3 0 rfl rfl) (c_X3_put (A := AC _) (AC.own hD) ((xs (i + 1)).toInt) ((xs (i + 2)).toInt) ((xs (i + 3)).toInt) hV hr1 hr2 hr3) (cwV 3 C.2.2.2.2 gL_law_X3_put rfl rfl rfl (by decide +kernel) ⟨Nat.le_of_ble_eq_true rfl, Nat.le_of_ble_eq_true rfl⟩) (As := [.int (iI (xs (i + 1)).toInt), .int (iI (xs (i + 2)).toInt), .int (iI (xs (i + 3)).toInt)]) (hn := rfl) (hst := rfl) (rest := []) (hW := Nat.le_of_ble_eq_true rfl) (hdg := dL_law_879) (hf := hce) hS (fun v9 u9 H locs hq9 hG9 hO9 hS => ?_)
  obtain ⟨I2, R2⟩ := u9
  obtain ⟨hv9, hI9, hR9⟩ := hq9
  subst hv9
  have hI9 : I2 = (k_X3_put I R ((xs (i + 1)).toInt) ((xs (i + 2)).toInt) ((xs (i + 3)).toInt)).2.1 := hI9
  have hQ := hO9
  have hP : va_P D vwCl (wC cI cS ad I2 R2) H := hG9
  have hap : Apt (wC cI cS ad I2 R2) (wM cI am F R') := Apt_C hap
  have hD : va_D (fun q => s.heap.size ≤ q) (wC cI cS ad I2 R2) := jDC hD
  refine lv_aload_n hx hb dL_law_882 rfl (lv_at hl 1 rfl) ?_
  refine lv_aload_n hx hb dL_law_883 rfl (lv_at hl 3 rfl) ?_
  refine lv_iload_n hx hb dL_law_884 rfl (lv_at hl 0 rfl) ?_
  refine jz_const C dL_law_885 ?_
  refine jz_iadd C dL_law_886 ?_
  refine jl_sld C hX hbl hbA hS (i + 1) (by omega) (by omega) hL dL_law_887 ?_
  refine lv_aload_n hx hb dL_law_888 rfl (lv_at hl 3 rfl) ?_
  refine lv_iload_n hx hb dL_law_889 rfl (lv_at hl 0 rfl) ?_
  refine jz_const C dL_law_890 ?_
  refine jz_iadd C dL_law_891 ?_
  refine jl_sld C hX hbl hbA hS (i + 2) (by omega) (by omega) hL dL_law_892 ?_
  refine lv_aload_n hx hb dL_law_893 rfl (lv_at hl 3 rfl) ?_
  refine lv_iload_n hx hb dL_law_894 rfl (lv_at hl 0 rfl) ?_
  refine jz_const C dL_law_895 ?_
  refine jz_iadd C dL_law_896 ?_
  refine jl_sld C hX hbl hbA hS (i + 3) (by omega) (by omega) hL dL_law_897 ?_
  refine jl_V C hl.1 hP hDM hap.symm (jpreV hE hQ 4 0 rfl rfl) (c_X4_put (A := AC _) (AC.own hDM) ((xs (i + 1)).toInt) ((xs (i + 2)).toInt) ((xs (i + 3)).toInt) hM9 hr1 hr2 hr3) (cwV 3 C.2.2.2.2 gL_law_X4_put rfl rfl rfl (by decide +kernel) ⟨Nat.le_of_ble_eq_true rfl, Nat.le_of_ble_eq_true rfl⟩) (As := [.int (iI (xs (i + 1)).toInt), .int (iI (xs (i + 2)).toInt), .int (iI (xs (i + 3)).toInt)]) (hn := rfl) (hst := rfl) (rest := [.int (iI ((k_X3_put I R ((xs (i + 1)).toInt) ((xs (i + 2)).toInt) ((xs (i + 3)).toInt)).1))]) (hW := Nat.le_of_ble_eq_true rfl) (hdg := dL_law_898) (hf := hce) hS (fun v9 u9 H locs hq9 hG9 hO9 hS => ?_)
  obtain ⟨F2, R2'⟩ := u9
  obtain ⟨hv9, hF9, hM9r⟩ := hq9
  subst hv9
  have hF9 : F2 = (k_X4_put F R' ((xs (i + 1)).toInt) ((xs (i + 2)).toInt) ((xs (i + 3)).toInt)).2.1 := hF9
  have hQ : va_P D vwCl (wM cI am F2 R2') H := hG9
  have hP := hO9
  have heqs := (eq_put hst ((xs (i + 1)).toInt) ((xs (i + 2)).toInt) ((xs (i + 3)).toInt) hr3)
  have heq : ((k_X3_put I R ((xs (i + 1)).toInt) ((xs (i + 2)).toInt) ((xs (i + 3)).toInt)).1 : Int) = (k_X4_put F R' ((xs (i + 1)).toInt) ((xs (i + 2)).toInt) ((xs (i + 3)).toInt)).1 := heqs.1
  have hst1 := heqs.2
  have hst2 : St I2 R2 F2 R2' := by
    rw [hI9]
    rw [hF9]
    rw [show R2' = (k_X4_put F R' ((xs (i + 1)).toInt) ((xs (i + 2)).toInt) ((xs (i + 3)).toInt)).2.2 from hM9r]
    exact (hst1.jq hR9)
  exact lv_icmp_eq (tgt := 1141) hx hb dL_law_901 (by decide) (fun _ => kk _ _ ⟨ad, am, I2, R2, F2, R2', rfl, rfl, hP, hD, hQ, jDM hDM, Apt_M hap, hst2⟩ hS) (fun hne => absurd (congrArg iI heq) hne)
set_option maxHeartbeats 4000000 in
set_option maxRecDepth 100000 in
theorem law_25 {p : Program} {l : Launch} {e : Env} {s : State} {m : MethodId} {below : List Frame} {meth : Method} {c : Code} {cells slots : Nat} {Q : State → Prop} {b L : Nat} {xs : Nat → Int32} {D : va_G} {cI cS : ClassId} {a0 m0 : Nat} (C : CallFix p m c cL_law 4 s #[Value.ref b] wsL_law RL) (hX : va_X b L xs s s.heap) (hbl : b < s.heap.size) (hE : jE D cI cS s) (hT0 : jT (fun q => s.heap.size ≤ q) s s.heap) (hL : L ≤ 3072) (hce : cells ≤ room_1.cells ∧ slots ≤ room_1.slots) {i : Nat} (hi : i + 6 ≤ L) {H : Heap} {locs : List Loc} {ls : Array Slot} (hI : Inv (fun q => s.heap.size ≤ q) D cI cS a0 m0 H) (hS : va_S (fun q => s.heap.size ≤ q) s.heap H locs) (hl : lv_has ls 4 [(3, .int (iI (i : Int))), (2, .ref m0), (1, .ref a0), (0, .ref b)])
    (kk : ∀ (H1 : Heap) (locs1 : List Loc), Inv (fun q => s.heap.size ≤ q) D cI cS a0 m0 H1 → va_S (fun q => s.heap.size ≤ q) s.heap H1 locs1 → W p l e room_1 s m #[Value.ref b] below meth c H1 locs1 cells slots Q (F0 m 1141 ls [])) : W p l e room_1 s m #[Value.ref b] below meth c H locs cells slots Q (F0 m 906 ls []) := by
  obtain ⟨ad, am, I, R, F, R', rfl, rfl, hP, hD, hQ, hDM, hap, hst⟩ := hI
  have hx := C.1
  have hb := C.2.1
  have hbA : ¬ (fun q => s.heap.size ≤ q) b := fun q => absurd hbl (Nat.not_lt.mpr q)
  have hV := hst.vi
  have hM9 := hst.mv
  refine lv_aload_n hx hb dL_law_906 rfl (lv_at hl 2 rfl) ?_
  refine lv_aload_n hx hb dL_law_907 rfl (lv_at hl 3 rfl) ?_
  refine lv_iload_n hx hb dL_law_908 rfl (lv_at hl 0 rfl) ?_
  refine jz_const C dL_law_909 ?_
  refine jz_iadd C dL_law_910 ?_
  refine jl_sld C hX hbl hbA hS (i + 1) (by omega) (by omega) hL dL_law_911 ?_
  have hr1 := iI_rng (xs (i + 1))
  refine lv_aload_n hx hb dL_law_912 rfl (lv_at hl 3 rfl) ?_
  refine lv_iload_n hx hb dL_law_913 rfl (lv_at hl 0 rfl) ?_
  refine jz_const C dL_law_914 ?_
  refine jz_iadd C dL_law_915 ?_
  refine jl_sld C hX hbl hbA hS (i + 2) (by omega) (by omega) hL dL_law_916 ?_
  have hr2 := iI_rng (xs (i + 2))
  refine lv_aload_n hx hb dL_law_917 rfl (lv_at hl 3 rfl) ?_
  refine lv_iload_n hx hb dL_law_918 rfl (lv_at hl 0 rfl) ?_
  refine jz_const C dL_law_919 ?_
  refine jz_iadd C dL_law_920 ?_
  refine jl_sld C hX hbl hbA hS (i + 3) (by omega) (by omega) hL dL_law_921 ?_
  have hr3 := iI_rng (xs (i + 3))
  refine jl_V C hl.1 hQ hD hap (jpreV hE hP 3 0 rfl rfl) (c_X3_cell (A := AC _) (AC.own hD) ((xs (i + 1)).toInt) ((xs (i + 2)).toInt) ((xs (i + 3)).toInt) hV hr1 hr2 hr3) (cwV 3 C.2.2.2.2 gL_law_X3_cell rfl rfl rfl (by decide +kernel) ⟨Nat.le_of_ble_eq_true rfl, Nat.le_of_ble_eq_true rfl⟩) (As := [.int (iI (xs (i + 1)).toInt), .int (iI (xs (i + 2)).toInt), .int (iI (xs (i + 3)).toInt)]) (hn := rfl) (hst := rfl) (rest := []) (hW := Nat.le_of_ble_eq_true rfl) (hdg := dL_law_922) (hf := hce) hS (fun v9 u9 H locs hq9 hG9 hO9 hS => ?_)
  obtain ⟨I2, R2⟩ := u9
  obtain ⟨hv9, hI9, hR9⟩ := hq9
  subst hv9
  have hI9 : I2 = (k_X3_cell I R ((xs (i + 1)).toInt) ((xs (i + 2)).toInt) ((xs (i + 3)).toInt)).2.1 := hI9
  have hQ := hO9
  have hP : va_P D vwCl (wC cI cS ad I2 R2) H := hG9
  have hap : Apt (wC cI cS ad I2 R2) (wM cI am F R') := Apt_C hap
  have hD : va_D (fun q => s.heap.size ≤ q) (wC cI cS ad I2 R2) := jDC hD
  refine lv_aload_n hx hb dL_law_925 rfl (lv_at hl 1 rfl) ?_
  refine lv_aload_n hx hb dL_law_926 rfl (lv_at hl 3 rfl) ?_
  refine lv_iload_n hx hb dL_law_927 rfl (lv_at hl 0 rfl) ?_
  refine jz_const C dL_law_928 ?_
  refine jz_iadd C dL_law_929 ?_
  refine jl_sld C hX hbl hbA hS (i + 1) (by omega) (by omega) hL dL_law_930 ?_
  refine lv_aload_n hx hb dL_law_931 rfl (lv_at hl 3 rfl) ?_
  refine lv_iload_n hx hb dL_law_932 rfl (lv_at hl 0 rfl) ?_
  refine jz_const C dL_law_933 ?_
  refine jz_iadd C dL_law_934 ?_
  refine jl_sld C hX hbl hbA hS (i + 2) (by omega) (by omega) hL dL_law_935 ?_
  refine lv_aload_n hx hb dL_law_936 rfl (lv_at hl 3 rfl) ?_
  refine lv_iload_n hx hb dL_law_937 rfl (lv_at hl 0 rfl) ?_
  refine jz_const C dL_law_938 ?_
  refine jz_iadd C dL_law_939 ?_
  refine jl_sld C hX hbl hbA hS (i + 3) (by omega) (by omega) hL dL_law_940 ?_
  refine jl_V C hl.1 hP hDM hap.symm (jpreV hE hQ 4 0 rfl rfl) (c_X4_cell (A := AC _) (AC.own hDM) ((xs (i + 1)).toInt) ((xs (i + 2)).toInt) ((xs (i + 3)).toInt) hM9 hr1 hr2 hr3) (cwV 3 C.2.2.2.2 gL_law_X4_cell rfl rfl rfl (by decide +kernel) ⟨Nat.le_of_ble_eq_true rfl, Nat.le_of_ble_eq_true rfl⟩) (As := [.int (iI (xs (i + 1)).toInt), .int (iI (xs (i + 2)).toInt), .int (iI (xs (i + 3)).toInt)]) (hn := rfl) (hst := rfl) (rest := [.long (lI ((k_X3_cell I R ((xs (i + 1)).toInt) ((xs (i + 2)).toInt) ((xs (i + 3)).toInt)).1))]) (hW := Nat.le_of_ble_eq_true rfl) (hdg := dL_law_941) (hf := hce) hS (fun v9 u9 H locs hq9 hG9 hO9 hS => ?_)
  obtain ⟨F2, R2'⟩ := u9
  obtain ⟨hv9, hF9, hM9r⟩ := hq9
  subst hv9
  have hF9 : F2 = (k_X4_cell F R' ((xs (i + 1)).toInt) ((xs (i + 2)).toInt) ((xs (i + 3)).toInt)).2.1 := hF9
  have hQ : va_P D vwCl (wM cI am F2 R2') H := hG9
  have hP := hO9
  have heqs := (eq_cell hst ((xs (i + 1)).toInt) ((xs (i + 2)).toInt) ((xs (i + 3)).toInt))
  have heq : ((k_X3_cell I R ((xs (i + 1)).toInt) ((xs (i + 2)).toInt) ((xs (i + 3)).toInt)).1 : Int) = (k_X4_cell F R' ((xs (i + 1)).toInt) ((xs (i + 2)).toInt) ((xs (i + 3)).toInt)).1 := heqs.1
  have hst1 := heqs.2
  have hst2 : St I2 R2 F2 R2' := by
    rw [hI9]
    rw [hF9]
    rw [show R2' = (k_X4_cell F R' ((xs (i + 1)).toInt) ((xs (i + 2)).toInt) ((xs (i + 3)).toInt)).2.2 from hM9r]
    exact (hst1.jq hR9)
  refine W.lcmp hx hb dL_law_944 ?_
  rw [show lg_cmp (lI ((k_X3_cell I R ((xs (i + 1)).toInt) ((xs (i + 2)).toInt) ((xs (i + 3)).toInt)).1)) (lI ((k_X4_cell F R' ((xs (i + 1)).toInt) ((xs (i + 2)).toInt) ((xs (i + 3)).toInt)).1)) = 0 from (lg_cmp_eq _ _).mpr (congrArg lI heq)]
  exact lv_if_eq (tgt := 1141) hx hb dL_law_945 (by decide) (fun _ => kk _ _ ⟨ad, am, I2, R2, F2, R2', rfl, rfl, hP, hD, hQ, jDM hDM, Apt_M hap, hst2⟩ hS) (fun hne => absurd rfl hne)
set_option maxHeartbeats 4000000 in
set_option maxRecDepth 100000 in
theorem law_26 {p : Program} {l : Launch} {e : Env} {s : State} {m : MethodId} {below : List Frame} {meth : Method} {c : Code} {cells slots : Nat} {Q : State → Prop} {b L : Nat} {xs : Nat → Int32} {D : va_G} {cI cS : ClassId} {a0 m0 : Nat} (C : CallFix p m c cL_law 4 s #[Value.ref b] wsL_law RL) (hX : va_X b L xs s s.heap) (hbl : b < s.heap.size) (hE : jE D cI cS s) (hT0 : jT (fun q => s.heap.size ≤ q) s s.heap) (hL : L ≤ 3072) (hce : cells ≤ room_1.cells ∧ slots ≤ room_1.slots) {i : Nat} (hi : i + 6 ≤ L) {H : Heap} {locs : List Loc} {ls : Array Slot} (hI : Inv (fun q => s.heap.size ≤ q) D cI cS a0 m0 H) (hS : va_S (fun q => s.heap.size ≤ q) s.heap H locs) (hl : lv_has ls 4 [(3, .int (iI (i : Int))), (2, .ref m0), (1, .ref a0), (0, .ref b)])
    (kk : ∀ (H1 : Heap) (locs1 : List Loc), Inv (fun q => s.heap.size ≤ q) D cI cS a0 m0 H1 → va_S (fun q => s.heap.size ≤ q) s.heap H1 locs1 → W p l e room_1 s m #[Value.ref b] below meth c H1 locs1 cells slots Q (F0 m 1141 ls [])) : W p l e room_1 s m #[Value.ref b] below meth c H locs cells slots Q (F0 m 950 ls []) := by
  obtain ⟨ad, am, I, R, F, R', rfl, rfl, hP, hD, hQ, hDM, hap, hst⟩ := hI
  have hx := C.1
  have hb := C.2.1
  have hbA : ¬ (fun q => s.heap.size ≤ q) b := fun q => absurd hbl (Nat.not_lt.mpr q)
  have hV := hst.vi
  have hM9 := hst.mv
  refine lv_aload_n hx hb dL_law_950 rfl (lv_at hl 2 rfl) ?_
  refine lv_aload_n hx hb dL_law_951 rfl (lv_at hl 3 rfl) ?_
  refine lv_iload_n hx hb dL_law_952 rfl (lv_at hl 0 rfl) ?_
  refine jz_const C dL_law_953 ?_
  refine jz_iadd C dL_law_954 ?_
  refine jl_sld C hX hbl hbA hS (i + 1) (by omega) (by omega) hL dL_law_955 ?_
  have hr1 := iI_rng (xs (i + 1))
  refine lv_aload_n hx hb dL_law_956 rfl (lv_at hl 3 rfl) ?_
  refine lv_iload_n hx hb dL_law_957 rfl (lv_at hl 0 rfl) ?_
  refine jz_const C dL_law_958 ?_
  refine jz_iadd C dL_law_959 ?_
  refine jl_sld C hX hbl hbA hS (i + 2) (by omega) (by omega) hL dL_law_960 ?_
  have hr2 := iI_rng (xs (i + 2))
  refine lv_aload_n hx hb dL_law_961 rfl (lv_at hl 3 rfl) ?_
  refine lv_iload_n hx hb dL_law_962 rfl (lv_at hl 0 rfl) ?_
  refine jz_const C dL_law_963 ?_
  refine jz_iadd C dL_law_964 ?_
  refine jl_sld C hX hbl hbA hS (i + 3) (by omega) (by omega) hL dL_law_965 ?_
  have hr3 := iI_rng (xs (i + 3))
  refine lv_aload_n hx hb dL_law_966 rfl (lv_at hl 3 rfl) ?_
  refine lv_iload_n hx hb dL_law_967 rfl (lv_at hl 0 rfl) ?_
  refine jz_const C dL_law_968 ?_
  refine jz_iadd C dL_law_969 ?_
  refine jl_sld C hX hbl hbA hS (i + 4) (by omega) (by omega) hL dL_law_970 ?_
  have hr4 := iI_rng (xs (i + 4))
  refine lv_aload_n hx hb dL_law_971 rfl (lv_at hl 3 rfl) ?_
  refine lv_iload_n hx hb dL_law_972 rfl (lv_at hl 0 rfl) ?_
  refine jz_const C dL_law_973 ?_
  refine jz_iadd C dL_law_974 ?_
  refine jl_sld C hX hbl hbA hS (i + 5) (by omega) (by omega) hL dL_law_975 ?_
  have hr5 := iI_rng (xs (i + 5))
  refine jl_V C hl.1 hQ hD hap (jpreV hE hP 3 0 rfl rfl) (c_X3_copy (A := AC _) (AC.own hD) ((xs (i + 1)).toInt) ((xs (i + 2)).toInt) ((xs (i + 3)).toInt) ((xs (i + 4)).toInt) ((xs (i + 5)).toInt) hV hr1 hr2 hr3 hr4 hr5) (cwV 5 C.2.2.2.2 gL_law_X3_copy rfl rfl rfl (by decide +kernel) ⟨Nat.le_of_ble_eq_true rfl, Nat.le_of_ble_eq_true rfl⟩) (As := [.int (iI (xs (i + 1)).toInt), .int (iI (xs (i + 2)).toInt), .int (iI (xs (i + 3)).toInt), .int (iI (xs (i + 4)).toInt), .int (iI (xs (i + 5)).toInt)]) (hn := rfl) (hst := rfl) (rest := []) (hW := Nat.le_of_ble_eq_true rfl) (hdg := dL_law_976) (hf := hce) hS (fun v9 u9 H locs hq9 hG9 hO9 hS => ?_)
  obtain ⟨I2, R2⟩ := u9
  obtain ⟨hv9, hI9, hR9⟩ := hq9
  subst hv9
  have hI9 : I2 = (k_X3_copy I R ((xs (i + 1)).toInt) ((xs (i + 2)).toInt) ((xs (i + 3)).toInt) ((xs (i + 4)).toInt) ((xs (i + 5)).toInt)).2.1 := hI9
  have hQ := hO9
  have hP : va_P D vwCl (wC cI cS ad I2 R2) H := hG9
  have hap : Apt (wC cI cS ad I2 R2) (wM cI am F R') := Apt_C hap
  have hD : va_D (fun q => s.heap.size ≤ q) (wC cI cS ad I2 R2) := jDC hD
  refine lv_aload_n hx hb dL_law_979 rfl (lv_at hl 1 rfl) ?_
  refine lv_aload_n hx hb dL_law_980 rfl (lv_at hl 3 rfl) ?_
  refine lv_iload_n hx hb dL_law_981 rfl (lv_at hl 0 rfl) ?_
  refine jz_const C dL_law_982 ?_
  refine jz_iadd C dL_law_983 ?_
  refine jl_sld C hX hbl hbA hS (i + 1) (by omega) (by omega) hL dL_law_984 ?_
  refine lv_aload_n hx hb dL_law_985 rfl (lv_at hl 3 rfl) ?_
  refine lv_iload_n hx hb dL_law_986 rfl (lv_at hl 0 rfl) ?_
  refine jz_const C dL_law_987 ?_
  refine jz_iadd C dL_law_988 ?_
  refine jl_sld C hX hbl hbA hS (i + 2) (by omega) (by omega) hL dL_law_989 ?_
  refine lv_aload_n hx hb dL_law_990 rfl (lv_at hl 3 rfl) ?_
  refine lv_iload_n hx hb dL_law_991 rfl (lv_at hl 0 rfl) ?_
  refine jz_const C dL_law_992 ?_
  refine jz_iadd C dL_law_993 ?_
  refine jl_sld C hX hbl hbA hS (i + 3) (by omega) (by omega) hL dL_law_994 ?_
  refine lv_aload_n hx hb dL_law_995 rfl (lv_at hl 3 rfl) ?_
  refine lv_iload_n hx hb dL_law_996 rfl (lv_at hl 0 rfl) ?_
  refine jz_const C dL_law_997 ?_
  refine jz_iadd C dL_law_998 ?_
  refine jl_sld C hX hbl hbA hS (i + 4) (by omega) (by omega) hL dL_law_999 ?_
  refine lv_aload_n hx hb dL_law_1000 rfl (lv_at hl 3 rfl) ?_
  refine lv_iload_n hx hb dL_law_1001 rfl (lv_at hl 0 rfl) ?_
  refine jz_const C dL_law_1002 ?_
  refine jz_iadd C dL_law_1003 ?_
  refine jl_sld C hX hbl hbA hS (i + 5) (by omega) (by omega) hL dL_law_1004 ?_
  refine jl_V C hl.1 hP hDM hap.symm (jpreV hE hQ 4 0 rfl rfl) (c_X4_copy (A := AC _) (AC.own hDM) ((xs (i + 1)).toInt) ((xs (i + 2)).toInt) ((xs (i + 3)).toInt) ((xs (i + 4)).toInt) ((xs (i + 5)).toInt) hM9 hr1 hr2 hr3 hr4 hr5) (cwV 5 C.2.2.2.2 gL_law_X4_copy rfl rfl rfl (by decide +kernel) ⟨Nat.le_of_ble_eq_true rfl, Nat.le_of_ble_eq_true rfl⟩) (As := [.int (iI (xs (i + 1)).toInt), .int (iI (xs (i + 2)).toInt), .int (iI (xs (i + 3)).toInt), .int (iI (xs (i + 4)).toInt), .int (iI (xs (i + 5)).toInt)]) (hn := rfl) (hst := rfl) (rest := [.int (iI ((k_X3_copy I R ((xs (i + 1)).toInt) ((xs (i + 2)).toInt) ((xs (i + 3)).toInt) ((xs (i + 4)).toInt) ((xs (i + 5)).toInt)).1))]) (hW := Nat.le_of_ble_eq_true rfl) (hdg := dL_law_1005) (hf := hce) hS (fun v9 u9 H locs hq9 hG9 hO9 hS => ?_)
  obtain ⟨F2, R2'⟩ := u9
  obtain ⟨hv9, hF9, hM9r⟩ := hq9
  subst hv9
  have hF9 : F2 = (k_X4_copy F R' ((xs (i + 1)).toInt) ((xs (i + 2)).toInt) ((xs (i + 3)).toInt) ((xs (i + 4)).toInt) ((xs (i + 5)).toInt)).2.1 := hF9
  have hQ : va_P D vwCl (wM cI am F2 R2') H := hG9
  have hP := hO9
  have heqs := (eq_copy hst ((xs (i + 1)).toInt) ((xs (i + 2)).toInt) ((xs (i + 3)).toInt) ((xs (i + 4)).toInt) ((xs (i + 5)).toInt))
  have heq : ((k_X3_copy I R ((xs (i + 1)).toInt) ((xs (i + 2)).toInt) ((xs (i + 3)).toInt) ((xs (i + 4)).toInt) ((xs (i + 5)).toInt)).1 : Int) = (k_X4_copy F R' ((xs (i + 1)).toInt) ((xs (i + 2)).toInt) ((xs (i + 3)).toInt) ((xs (i + 4)).toInt) ((xs (i + 5)).toInt)).1 := heqs.1
  have hst1 := heqs.2
  have hst2 : St I2 R2 F2 R2' := by
    rw [hI9]
    rw [hF9]
    exact ((hst1.jq hR9).jm hM9r)
  exact lv_icmp_eq (tgt := 1141) hx hb dL_law_1008 (by decide) (fun _ => kk _ _ ⟨ad, am, I2, R2, F2, R2', rfl, rfl, hP, hD, hQ, jDM hDM, Apt_M hap, hst2⟩ hS) (fun hne => absurd (congrArg iI heq) hne)
set_option maxHeartbeats 4000000 in
set_option maxRecDepth 100000 in
theorem law_27 {p : Program} {l : Launch} {e : Env} {s : State} {m : MethodId} {below : List Frame} {meth : Method} {c : Code} {cells slots : Nat} {Q : State → Prop} {b L : Nat} {xs : Nat → Int32} {D : va_G} {cI cS : ClassId} {a0 m0 : Nat} (C : CallFix p m c cL_law 4 s #[Value.ref b] wsL_law RL) (hX : va_X b L xs s s.heap) (hbl : b < s.heap.size) (hE : jE D cI cS s) (hT0 : jT (fun q => s.heap.size ≤ q) s s.heap) (hL : L ≤ 3072) (hce : cells ≤ room_1.cells ∧ slots ≤ room_1.slots) {i : Nat} (hi : i + 6 ≤ L) {H : Heap} {locs : List Loc} {ls : Array Slot} (hI : Inv (fun q => s.heap.size ≤ q) D cI cS a0 m0 H) (hS : va_S (fun q => s.heap.size ≤ q) s.heap H locs) (hl : lv_has ls 4 [(3, .int (iI (i : Int))), (2, .ref m0), (1, .ref a0), (0, .ref b)])
    (kk : ∀ (H1 : Heap) (locs1 : List Loc), Inv (fun q => s.heap.size ≤ q) D cI cS a0 m0 H1 → va_S (fun q => s.heap.size ≤ q) s.heap H1 locs1 → W p l e room_1 s m #[Value.ref b] below meth c H1 locs1 cells slots Q (F0 m 1141 ls [])) : W p l e room_1 s m #[Value.ref b] below meth c H locs cells slots Q (F0 m 1013 ls []) := by
  obtain ⟨ad, am, I, R, F, R', rfl, rfl, hP, hD, hQ, hDM, hap, hst⟩ := hI
  have hx := C.1
  have hb := C.2.1
  have hbA : ¬ (fun q => s.heap.size ≤ q) b := fun q => absurd hbl (Nat.not_lt.mpr q)
  have hV := hst.vi
  have hM9 := hst.mv
  refine lv_aload_n hx hb dL_law_1013 rfl (lv_at hl 2 rfl) ?_
  refine lv_aload_n hx hb dL_law_1014 rfl (lv_at hl 3 rfl) ?_
  refine lv_iload_n hx hb dL_law_1015 rfl (lv_at hl 0 rfl) ?_
  refine jz_const C dL_law_1016 ?_
  refine jz_iadd C dL_law_1017 ?_
  refine jl_sld C hX hbl hbA hS (i + 1) (by omega) (by omega) hL dL_law_1018 ?_
  have hr1 := iI_rng (xs (i + 1))
  refine jl_V C hl.1 hQ hD hap (jpreV hE hP 3 0 rfl rfl) (c_X3_tell (A := AC _) (AC.own hD) ((xs (i + 1)).toInt) hV hr1) (cwV 1 C.2.2.2.2 gL_law_X3_tell rfl rfl rfl (by decide +kernel) ⟨Nat.le_of_ble_eq_true rfl, Nat.le_of_ble_eq_true rfl⟩) (As := [.int (iI (xs (i + 1)).toInt)]) (hn := rfl) (hst := rfl) (rest := []) (hW := Nat.le_of_ble_eq_true rfl) (hdg := dL_law_1019) (hf := hce) hS (fun v9 u9 H locs hq9 hG9 hO9 hS => ?_)
  obtain ⟨I2, R2⟩ := u9
  obtain ⟨hv9, hI9, hR9⟩ := hq9
  subst hv9
  have hI9 : I2 = (k_X3_tell I R ((xs (i + 1)).toInt)).2.1 := hI9
  have hQ := hO9
  have hP : va_P D vwCl (wC cI cS ad I2 R2) H := hG9
  have hap : Apt (wC cI cS ad I2 R2) (wM cI am F R') := Apt_C hap
  have hD : va_D (fun q => s.heap.size ≤ q) (wC cI cS ad I2 R2) := jDC hD
  refine lv_aload_n hx hb dL_law_1022 rfl (lv_at hl 1 rfl) ?_
  refine lv_aload_n hx hb dL_law_1023 rfl (lv_at hl 3 rfl) ?_
  refine lv_iload_n hx hb dL_law_1024 rfl (lv_at hl 0 rfl) ?_
  refine jz_const C dL_law_1025 ?_
  refine jz_iadd C dL_law_1026 ?_
  refine jl_sld C hX hbl hbA hS (i + 1) (by omega) (by omega) hL dL_law_1027 ?_
  refine jl_V C hl.1 hP hDM hap.symm (jpreV hE hQ 4 0 rfl rfl) (c_X4_tell (A := AC _) (AC.own hDM) ((xs (i + 1)).toInt) hM9 hr1) (cwV 1 C.2.2.2.2 gL_law_X4_tell rfl rfl rfl (by decide +kernel) ⟨Nat.le_of_ble_eq_true rfl, Nat.le_of_ble_eq_true rfl⟩) (As := [.int (iI (xs (i + 1)).toInt)]) (hn := rfl) (hst := rfl) (rest := [.int (iI ((k_X3_tell I R ((xs (i + 1)).toInt)).1))]) (hW := Nat.le_of_ble_eq_true rfl) (hdg := dL_law_1028) (hf := hce) hS (fun v9 u9 H locs hq9 hG9 hO9 hS => ?_)
  obtain ⟨F2, R2'⟩ := u9
  obtain ⟨hv9, hF9, hM9r⟩ := hq9
  subst hv9
  have hF9 : F2 = (k_X4_tell F R' ((xs (i + 1)).toInt)).2.1 := hF9
  have hQ : va_P D vwCl (wM cI am F2 R2') H := hG9
  have hP := hO9
  have heqs := (eq_tell hst ((xs (i + 1)).toInt))
  have heq : ((k_X3_tell I R ((xs (i + 1)).toInt)).1 : Int) = (k_X4_tell F R' ((xs (i + 1)).toInt)).1 := heqs.1
  have hst1 := heqs.2
  have hst2 : St I2 R2 F2 R2' := by
    rw [hI9]
    rw [hF9]
    rw [show R2' = (k_X4_tell F R' ((xs (i + 1)).toInt)).2.2 from hM9r]
    exact (hst1.jq hR9)
  exact lv_icmp_eq (tgt := 1141) hx hb dL_law_1031 (by decide) (fun _ => kk _ _ ⟨ad, am, I2, R2, F2, R2', rfl, rfl, hP, hD, hQ, jDM hDM, Apt_M hap, hst2⟩ hS) (fun hne => absurd (congrArg iI heq) hne)
set_option maxHeartbeats 4000000 in
set_option maxRecDepth 100000 in
theorem law_28 {p : Program} {l : Launch} {e : Env} {s : State} {m : MethodId} {below : List Frame} {meth : Method} {c : Code} {cells slots : Nat} {Q : State → Prop} {b L : Nat} {xs : Nat → Int32} {D : va_G} {cI cS : ClassId} {a0 m0 : Nat} (C : CallFix p m c cL_law 4 s #[Value.ref b] wsL_law RL) (hX : va_X b L xs s s.heap) (hbl : b < s.heap.size) (hE : jE D cI cS s) (hT0 : jT (fun q => s.heap.size ≤ q) s s.heap) (hL : L ≤ 3072) (hce : cells ≤ room_1.cells ∧ slots ≤ room_1.slots) {i : Nat} (hi : i + 6 ≤ L) {H : Heap} {locs : List Loc} {ls : Array Slot} (hI : Inv (fun q => s.heap.size ≤ q) D cI cS a0 m0 H) (hS : va_S (fun q => s.heap.size ≤ q) s.heap H locs) (hl : lv_has ls 4 [(3, .int (iI (i : Int))), (2, .ref m0), (1, .ref a0), (0, .ref b)])
    (kk : ∀ (H1 : Heap) (locs1 : List Loc), Inv (fun q => s.heap.size ≤ q) D cI cS a0 m0 H1 → va_S (fun q => s.heap.size ≤ q) s.heap H1 locs1 → W p l e room_1 s m #[Value.ref b] below meth c H1 locs1 cells slots Q (F0 m 1141 ls [])) : W p l e room_1 s m #[Value.ref b] below meth c H locs cells slots Q (F0 m 1036 ls []) := by
  obtain ⟨ad, am, I, R, F, R', rfl, rfl, hP, hD, hQ, hDM, hap, hst⟩ := hI
  have hx := C.1
  have hb := C.2.1
  have hbA : ¬ (fun q => s.heap.size ≤ q) b := fun q => absurd hbl (Nat.not_lt.mpr q)
  have hV := hst.vi
  have hM9 := hst.mv
  refine lv_aload_n hx hb dL_law_1036 rfl (lv_at hl 2 rfl) ?_
  refine lv_aload_n hx hb dL_law_1037 rfl (lv_at hl 3 rfl) ?_
  refine lv_iload_n hx hb dL_law_1038 rfl (lv_at hl 0 rfl) ?_
  refine jz_const C dL_law_1039 ?_
  refine jz_iadd C dL_law_1040 ?_
  refine jl_sld C hX hbl hbA hS (i + 1) (by omega) (by omega) hL dL_law_1041 ?_
  have hr1 := iI_rng (xs (i + 1))
  refine jl_V C hl.1 hQ hD hap (jpreV hE hP 3 0 rfl rfl) (c_X3_woo (A := AC _) (AC.own hD) ((xs (i + 1)).toInt) hV hr1) (cwV 1 C.2.2.2.2 gL_law_X3_woo rfl rfl rfl (by decide +kernel) ⟨Nat.le_of_ble_eq_true rfl, Nat.le_of_ble_eq_true rfl⟩) (As := [.int (iI (xs (i + 1)).toInt)]) (hn := rfl) (hst := rfl) (rest := []) (hW := Nat.le_of_ble_eq_true rfl) (hdg := dL_law_1042) (hf := hce) hS (fun v9 u9 H locs hq9 hG9 hO9 hS => ?_)
  obtain ⟨I2, R2⟩ := u9
  obtain ⟨hv9, hI9, hR9⟩ := hq9
  subst hv9
  have hI9 : I2 = (k_X3_woo I R ((xs (i + 1)).toInt)).2.1 := hI9
  have hQ := hO9
  have hP : va_P D vwCl (wC cI cS ad I2 R2) H := hG9
  have hap : Apt (wC cI cS ad I2 R2) (wM cI am F R') := Apt_C hap
  have hD : va_D (fun q => s.heap.size ≤ q) (wC cI cS ad I2 R2) := jDC hD
  refine lv_aload_n hx hb dL_law_1045 rfl (lv_at hl 1 rfl) ?_
  refine lv_aload_n hx hb dL_law_1046 rfl (lv_at hl 3 rfl) ?_
  refine lv_iload_n hx hb dL_law_1047 rfl (lv_at hl 0 rfl) ?_
  refine jz_const C dL_law_1048 ?_
  refine jz_iadd C dL_law_1049 ?_
  refine jl_sld C hX hbl hbA hS (i + 1) (by omega) (by omega) hL dL_law_1050 ?_
  refine jl_V C hl.1 hP hDM hap.symm (jpreV hE hQ 4 0 rfl rfl) (c_X4_woo (A := AC _) (AC.own hDM) ((xs (i + 1)).toInt) hM9 hr1) (cwV 1 C.2.2.2.2 gL_law_X4_woo rfl rfl rfl (by decide +kernel) ⟨Nat.le_of_ble_eq_true rfl, Nat.le_of_ble_eq_true rfl⟩) (As := [.int (iI (xs (i + 1)).toInt)]) (hn := rfl) (hst := rfl) (rest := [.int (iI ((k_X3_woo I R ((xs (i + 1)).toInt)).1))]) (hW := Nat.le_of_ble_eq_true rfl) (hdg := dL_law_1051) (hf := hce) hS (fun v9 u9 H locs hq9 hG9 hO9 hS => ?_)
  obtain ⟨F2, R2'⟩ := u9
  obtain ⟨hv9, hF9, hM9r⟩ := hq9
  subst hv9
  have hF9 : F2 = (k_X4_woo F R' ((xs (i + 1)).toInt)).2.1 := hF9
  have hQ : va_P D vwCl (wM cI am F2 R2') H := hG9
  have hP := hO9
  have heqs := (eq_woo hst ((xs (i + 1)).toInt))
  have heq : ((k_X3_woo I R ((xs (i + 1)).toInt)).1 : Int) = (k_X4_woo F R' ((xs (i + 1)).toInt)).1 := heqs.1
  have hst1 := heqs.2
  have hst2 : St I2 R2 F2 R2' := by
    rw [hI9]
    rw [hF9]
    rw [show R2' = (k_X4_woo F R' ((xs (i + 1)).toInt)).2.2 from hM9r]
    exact (hst1.jq hR9)
  exact lv_icmp_eq (tgt := 1141) hx hb dL_law_1054 (by decide) (fun _ => kk _ _ ⟨ad, am, I2, R2, F2, R2', rfl, rfl, hP, hD, hQ, jDM hDM, Apt_M hap, hst2⟩ hS) (fun hne => absurd (congrArg iI heq) hne)
set_option maxHeartbeats 4000000 in
set_option maxRecDepth 100000 in
theorem law_29 {p : Program} {l : Launch} {e : Env} {s : State} {m : MethodId} {below : List Frame} {meth : Method} {c : Code} {cells slots : Nat} {Q : State → Prop} {b L : Nat} {xs : Nat → Int32} {D : va_G} {cI cS : ClassId} {a0 m0 : Nat} (C : CallFix p m c cL_law 4 s #[Value.ref b] wsL_law RL) (hX : va_X b L xs s s.heap) (hbl : b < s.heap.size) (hE : jE D cI cS s) (hT0 : jT (fun q => s.heap.size ≤ q) s s.heap) (hL : L ≤ 3072) (hce : cells ≤ room_1.cells ∧ slots ≤ room_1.slots) {i : Nat} (hi : i + 6 ≤ L) {H : Heap} {locs : List Loc} {ls : Array Slot} (hI : Inv (fun q => s.heap.size ≤ q) D cI cS a0 m0 H) (hS : va_S (fun q => s.heap.size ≤ q) s.heap H locs) (hl : lv_has ls 4 [(3, .int (iI (i : Int))), (2, .ref m0), (1, .ref a0), (0, .ref b)])
    (kk : ∀ (H1 : Heap) (locs1 : List Loc), Inv (fun q => s.heap.size ≤ q) D cI cS a0 m0 H1 → va_S (fun q => s.heap.size ≤ q) s.heap H1 locs1 → W p l e room_1 s m #[Value.ref b] below meth c H1 locs1 cells slots Q (F0 m 1141 ls [])) : W p l e room_1 s m #[Value.ref b] below meth c H locs cells slots Q (F0 m 1059 ls []) := by
  obtain ⟨ad, am, I, R, F, R', rfl, rfl, hP, hD, hQ, hDM, hap, hst⟩ := hI
  have hx := C.1
  have hb := C.2.1
  have hbA : ¬ (fun q => s.heap.size ≤ q) b := fun q => absurd hbl (Nat.not_lt.mpr q)
  have hV := hst.vi
  have hM9 := hst.mv
  refine lv_aload_n hx hb dL_law_1059 rfl (lv_at hl 2 rfl) ?_
  refine lv_aload_n hx hb dL_law_1060 rfl (lv_at hl 3 rfl) ?_
  refine lv_iload_n hx hb dL_law_1061 rfl (lv_at hl 0 rfl) ?_
  refine jz_const C dL_law_1062 ?_
  refine jz_iadd C dL_law_1063 ?_
  refine jl_sld C hX hbl hbA hS (i + 1) (by omega) (by omega) hL dL_law_1064 ?_
  have hr1 := iI_rng (xs (i + 1))
  refine lv_aload_n hx hb dL_law_1065 rfl (lv_at hl 3 rfl) ?_
  refine lv_iload_n hx hb dL_law_1066 rfl (lv_at hl 0 rfl) ?_
  refine jz_const C dL_law_1067 ?_
  refine jz_iadd C dL_law_1068 ?_
  refine jl_sld C hX hbl hbA hS (i + 2) (by omega) (by omega) hL dL_law_1069 ?_
  have hr2 := iI_rng (xs (i + 2))
  refine jl_V C hl.1 hQ hD hap (jpreV hE hP 3 0 rfl rfl) (c_X3_as (A := AC _) (AC.own hD) ((xs (i + 1)).toInt) ((xs (i + 2)).toInt) hV hr1 hr2) (cwV 2 C.2.2.2.2 gL_law_X3_as rfl rfl rfl (by decide +kernel) ⟨Nat.le_of_ble_eq_true rfl, Nat.le_of_ble_eq_true rfl⟩) (As := [.int (iI (xs (i + 1)).toInt), .int (iI (xs (i + 2)).toInt)]) (hn := rfl) (hst := rfl) (rest := []) (hW := Nat.le_of_ble_eq_true rfl) (hdg := dL_law_1070) (hf := hce) hS (fun v9 u9 H locs hq9 hG9 hO9 hS => ?_)
  obtain ⟨I2, R2⟩ := u9
  obtain ⟨hv9, hI9, hR9⟩ := hq9
  subst hv9
  have hI9 : I2 = (k_X3_as I R ((xs (i + 1)).toInt) ((xs (i + 2)).toInt)).2.1 := hI9
  have hQ := hO9
  have hP : va_P D vwCl (wC cI cS ad I2 R2) H := hG9
  have hap : Apt (wC cI cS ad I2 R2) (wM cI am F R') := Apt_C hap
  have hD : va_D (fun q => s.heap.size ≤ q) (wC cI cS ad I2 R2) := jDC hD
  refine lv_aload_n hx hb dL_law_1073 rfl (lv_at hl 1 rfl) ?_
  refine lv_aload_n hx hb dL_law_1074 rfl (lv_at hl 3 rfl) ?_
  refine lv_iload_n hx hb dL_law_1075 rfl (lv_at hl 0 rfl) ?_
  refine jz_const C dL_law_1076 ?_
  refine jz_iadd C dL_law_1077 ?_
  refine jl_sld C hX hbl hbA hS (i + 1) (by omega) (by omega) hL dL_law_1078 ?_
  refine lv_aload_n hx hb dL_law_1079 rfl (lv_at hl 3 rfl) ?_
  refine lv_iload_n hx hb dL_law_1080 rfl (lv_at hl 0 rfl) ?_
  refine jz_const C dL_law_1081 ?_
  refine jz_iadd C dL_law_1082 ?_
  refine jl_sld C hX hbl hbA hS (i + 2) (by omega) (by omega) hL dL_law_1083 ?_
  refine jl_V C hl.1 hP hDM hap.symm (jpreV hE hQ 4 0 rfl rfl) (c_X4_as (A := AC _) (AC.own hDM) ((xs (i + 1)).toInt) ((xs (i + 2)).toInt) hM9 hr1 hr2) (cwV 2 C.2.2.2.2 gL_law_X4_as rfl rfl rfl (by decide +kernel) ⟨Nat.le_of_ble_eq_true rfl, Nat.le_of_ble_eq_true rfl⟩) (As := [.int (iI (xs (i + 1)).toInt), .int (iI (xs (i + 2)).toInt)]) (hn := rfl) (hst := rfl) (rest := [.int (iI ((k_X3_as I R ((xs (i + 1)).toInt) ((xs (i + 2)).toInt)).1))]) (hW := Nat.le_of_ble_eq_true rfl) (hdg := dL_law_1084) (hf := hce) hS (fun v9 u9 H locs hq9 hG9 hO9 hS => ?_)
  obtain ⟨F2, R2'⟩ := u9
  obtain ⟨hv9, hF9, hM9r⟩ := hq9
  subst hv9
  have hF9 : F2 = (k_X4_as F R' ((xs (i + 1)).toInt) ((xs (i + 2)).toInt)).2.1 := hF9
  have hQ : va_P D vwCl (wM cI am F2 R2') H := hG9
  have hP := hO9
  have heqs := (eq_as hst ((xs (i + 1)).toInt) ((xs (i + 2)).toInt))
  have heq : ((k_X3_as I R ((xs (i + 1)).toInt) ((xs (i + 2)).toInt)).1 : Int) = (k_X4_as F R' ((xs (i + 1)).toInt) ((xs (i + 2)).toInt)).1 := heqs.1
  have hst1 := heqs.2
  have hst2 : St I2 R2 F2 R2' := by
    rw [hI9]
    rw [hF9]
    rw [show R2' = (k_X4_as F R' ((xs (i + 1)).toInt) ((xs (i + 2)).toInt)).2.2 from hM9r]
    exact (hst1.jq hR9)
  exact lv_icmp_eq (tgt := 1141) hx hb dL_law_1087 (by decide) (fun _ => kk _ _ ⟨ad, am, I2, R2, F2, R2', rfl, rfl, hP, hD, hQ, jDM hDM, Apt_M hap, hst2⟩ hS) (fun hne => absurd (congrArg iI heq) hne)
set_option maxHeartbeats 4000000 in
set_option maxRecDepth 100000 in
theorem law_30 {p : Program} {l : Launch} {e : Env} {s : State} {m : MethodId} {below : List Frame} {meth : Method} {c : Code} {cells slots : Nat} {Q : State → Prop} {b L : Nat} {xs : Nat → Int32} {D : va_G} {cI cS : ClassId} {a0 m0 : Nat} (C : CallFix p m c cL_law 4 s #[Value.ref b] wsL_law RL) (hX : va_X b L xs s s.heap) (hbl : b < s.heap.size) (hE : jE D cI cS s) (hT0 : jT (fun q => s.heap.size ≤ q) s s.heap) (hL : L ≤ 3072) (hce : cells ≤ room_1.cells ∧ slots ≤ room_1.slots) {i : Nat} (hi : i + 6 ≤ L) {H : Heap} {locs : List Loc} {ls : Array Slot} (hI : Inv (fun q => s.heap.size ≤ q) D cI cS a0 m0 H) (hS : va_S (fun q => s.heap.size ≤ q) s.heap H locs) (hl : lv_has ls 4 [(3, .int (iI (i : Int))), (2, .ref m0), (1, .ref a0), (0, .ref b)])
    (kk : ∀ (H1 : Heap) (locs1 : List Loc), Inv (fun q => s.heap.size ≤ q) D cI cS a0 m0 H1 → va_S (fun q => s.heap.size ≤ q) s.heap H1 locs1 → W p l e room_1 s m #[Value.ref b] below meth c H1 locs1 cells slots Q (F0 m 1141 ls [])) : W p l e room_1 s m #[Value.ref b] below meth c H locs cells slots Q (F0 m 1092 ls []) := by
  obtain ⟨ad, am, I, R, F, R', rfl, rfl, hP, hD, hQ, hDM, hap, hst⟩ := hI
  have hx := C.1
  have hb := C.2.1
  have hbA : ¬ (fun q => s.heap.size ≤ q) b := fun q => absurd hbl (Nat.not_lt.mpr q)
  have hV := hst.vi
  have hM9 := hst.mv
  refine lv_aload_n hx hb dL_law_1092 rfl (lv_at hl 2 rfl) ?_
  refine jc_V C hl.1 (jpreV hE hP 3 0 rfl rfl) (c_X3_trace  hV) (cwV 0 C.2.2.2.2 gL_law_X3_trace rfl rfl rfl (by decide +kernel) ⟨Nat.le_of_ble_eq_true rfl, Nat.le_of_ble_eq_true rfl⟩) (As := []) (v := .int (iI (k_X3_trace I R ))) (hn := rfl) (hst := rfl) (rest := []) (hW := Nat.le_of_ble_eq_true rfl) (hdg := dL_law_1093) (hf := hce) ?_
  refine lv_aload_n hx hb dL_law_1096 rfl (lv_at hl 1 rfl) ?_
  refine jc_V C hl.1 (jpreV hE hQ 4 0 rfl rfl) (c_X4_trace  hM9) (cwV 0 C.2.2.2.2 gL_law_X4_trace rfl rfl rfl (by decide +kernel) ⟨Nat.le_of_ble_eq_true rfl, Nat.le_of_ble_eq_true rfl⟩) (As := []) (v := .int (iI (k_X4_trace F R' ))) (hn := rfl) (hst := rfl) (rest := [.int (iI (k_X3_trace I R ))]) (hW := Nat.le_of_ble_eq_true rfl) (hdg := dL_law_1097) (hf := hce) ?_
  have heq : (k_X3_trace I R  : Int) = k_X4_trace F R'  := (eq_trace hst )
  have hst2 := hst
  exact lv_icmp_eq (tgt := 1141) hx hb dL_law_1100 (by decide) (fun _ => kk _ _ ⟨ad, am, I, R, F, R', rfl, rfl, hP, hD, hQ, jDM hDM, Apt_M hap, hst2⟩ hS) (fun hne => absurd (congrArg iI heq) hne)
set_option maxHeartbeats 4000000 in
set_option maxRecDepth 100000 in
theorem law_31 {p : Program} {l : Launch} {e : Env} {s : State} {m : MethodId} {below : List Frame} {meth : Method} {c : Code} {cells slots : Nat} {Q : State → Prop} {b L : Nat} {xs : Nat → Int32} {D : va_G} {cI cS : ClassId} {a0 m0 : Nat} (C : CallFix p m c cL_law 4 s #[Value.ref b] wsL_law RL) (hX : va_X b L xs s s.heap) (hbl : b < s.heap.size) (hE : jE D cI cS s) (hT0 : jT (fun q => s.heap.size ≤ q) s s.heap) (hL : L ≤ 3072) (hce : cells ≤ room_1.cells ∧ slots ≤ room_1.slots) {i : Nat} (hi : i + 6 ≤ L) {H : Heap} {locs : List Loc} {ls : Array Slot} (hI : Inv (fun q => s.heap.size ≤ q) D cI cS a0 m0 H) (hS : va_S (fun q => s.heap.size ≤ q) s.heap H locs) (hl : lv_has ls 4 [(3, .int (iI (i : Int))), (2, .ref m0), (1, .ref a0), (0, .ref b)])
    (kk : ∀ (H1 : Heap) (locs1 : List Loc), Inv (fun q => s.heap.size ≤ q) D cI cS a0 m0 H1 → va_S (fun q => s.heap.size ≤ q) s.heap H1 locs1 → W p l e room_1 s m #[Value.ref b] below meth c H1 locs1 cells slots Q (F0 m 1141 ls [])) : W p l e room_1 s m #[Value.ref b] below meth c H locs cells slots Q (F0 m 1105 ls []) := by
  obtain ⟨ad, am, I, R, F, R', rfl, rfl, hP, hD, hQ, hDM, hap, hst⟩ := hI
  have hx := C.1
  have hb := C.2.1
  have hbA : ¬ (fun q => s.heap.size ≤ q) b := fun q => absurd hbl (Nat.not_lt.mpr q)
  have hV := hst.vi
  have hM9 := hst.mv
  refine lv_aload_n hx hb dL_law_1105 rfl (lv_at hl 2 rfl) ?_
  refine jc_V C hl.1 (jpreV hE hP 3 0 rfl rfl) (c_X3_fault  hV) (cwV 0 C.2.2.2.2 gL_law_X3_fault rfl rfl rfl (by decide +kernel) ⟨Nat.le_of_ble_eq_true rfl, Nat.le_of_ble_eq_true rfl⟩) (As := []) (v := .int (iI (k_X3_fault I R ))) (hn := rfl) (hst := rfl) (rest := []) (hW := Nat.le_of_ble_eq_true rfl) (hdg := dL_law_1106) (hf := hce) ?_
  refine lv_aload_n hx hb dL_law_1109 rfl (lv_at hl 1 rfl) ?_
  refine jc_V C hl.1 (jpreV hE hQ 4 0 rfl rfl) (c_X4_fault  hM9) (cwV 0 C.2.2.2.2 gL_law_X4_fault rfl rfl rfl (by decide +kernel) ⟨Nat.le_of_ble_eq_true rfl, Nat.le_of_ble_eq_true rfl⟩) (As := []) (v := .int (iI (k_X4_fault F R' ))) (hn := rfl) (hst := rfl) (rest := [.int (iI (k_X3_fault I R ))]) (hW := Nat.le_of_ble_eq_true rfl) (hdg := dL_law_1110) (hf := hce) ?_
  have heq : (k_X3_fault I R  : Int) = k_X4_fault F R'  := (eq_fault hst )
  have hst2 := hst
  exact lv_icmp_eq (tgt := 1141) hx hb dL_law_1113 (by decide) (fun _ => kk _ _ ⟨ad, am, I, R, F, R', rfl, rfl, hP, hD, hQ, jDM hDM, Apt_M hap, hst2⟩ hS) (fun hne => absurd (congrArg iI heq) hne)
set_option maxHeartbeats 4000000 in
set_option maxRecDepth 100000 in
theorem law_32 {p : Program} {l : Launch} {e : Env} {s : State} {m : MethodId} {below : List Frame} {meth : Method} {c : Code} {cells slots : Nat} {Q : State → Prop} {b L : Nat} {xs : Nat → Int32} {D : va_G} {cI cS : ClassId} {a0 m0 : Nat} (C : CallFix p m c cL_law 4 s #[Value.ref b] wsL_law RL) (hX : va_X b L xs s s.heap) (hbl : b < s.heap.size) (hE : jE D cI cS s) (hT0 : jT (fun q => s.heap.size ≤ q) s s.heap) (hL : L ≤ 3072) (hce : cells ≤ room_1.cells ∧ slots ≤ room_1.slots) {i : Nat} (hi : i + 6 ≤ L) {H : Heap} {locs : List Loc} {ls : Array Slot} (hI : Inv (fun q => s.heap.size ≤ q) D cI cS a0 m0 H) (hS : va_S (fun q => s.heap.size ≤ q) s.heap H locs) (hl : lv_has ls 4 [(3, .int (iI (i : Int))), (2, .ref m0), (1, .ref a0), (0, .ref b)])
    (kk : ∀ (H1 : Heap) (locs1 : List Loc), Inv (fun q => s.heap.size ≤ q) D cI cS a0 m0 H1 → va_S (fun q => s.heap.size ≤ q) s.heap H1 locs1 → W p l e room_1 s m #[Value.ref b] below meth c H1 locs1 cells slots Q (F0 m 1141 ls [])) : W p l e room_1 s m #[Value.ref b] below meth c H locs cells slots Q (F0 m 1118 ls []) := by
  obtain ⟨ad, am, I, R, F, R', rfl, rfl, hP, hD, hQ, hDM, hap, hst⟩ := hI
  have hx := C.1
  have hb := C.2.1
  have hbA : ¬ (fun q => s.heap.size ≤ q) b := fun q => absurd hbl (Nat.not_lt.mpr q)
  have hV := hst.vi
  have hM9 := hst.mv
  refine lv_aload_n hx hb dL_law_1118 rfl (lv_at hl 2 rfl) ?_
  refine lv_aload_n hx hb dL_law_1119 rfl (lv_at hl 3 rfl) ?_
  refine lv_iload_n hx hb dL_law_1120 rfl (lv_at hl 0 rfl) ?_
  refine jz_const C dL_law_1121 ?_
  refine jz_iadd C dL_law_1122 ?_
  refine jl_sld C hX hbl hbA hS (i + 1) (by omega) (by omega) hL dL_law_1123 ?_
  have hr1 := iI_rng (xs (i + 1))
  refine jc_V C hl.1 (jpreV hE hP 3 0 rfl rfl) (c_X3_many ((xs (i + 1)).toInt) hV hr1) (cwV 1 C.2.2.2.2 gL_law_X3_many rfl rfl rfl (by decide +kernel) ⟨Nat.le_of_ble_eq_true rfl, Nat.le_of_ble_eq_true rfl⟩) (As := [.int (iI (xs (i + 1)).toInt)]) (v := .int (iI (k_X3_many I R ((xs (i + 1)).toInt)))) (hn := rfl) (hst := rfl) (rest := []) (hW := Nat.le_of_ble_eq_true rfl) (hdg := dL_law_1124) (hf := hce) ?_
  refine lv_aload_n hx hb dL_law_1127 rfl (lv_at hl 1 rfl) ?_
  refine lv_aload_n hx hb dL_law_1128 rfl (lv_at hl 3 rfl) ?_
  refine lv_iload_n hx hb dL_law_1129 rfl (lv_at hl 0 rfl) ?_
  refine jz_const C dL_law_1130 ?_
  refine jz_iadd C dL_law_1131 ?_
  refine jl_sld C hX hbl hbA hS (i + 1) (by omega) (by omega) hL dL_law_1132 ?_
  refine jc_V C hl.1 (jpreV hE hQ 4 0 rfl rfl) (c_X4_many ((xs (i + 1)).toInt) hM9 hr1) (cwV 1 C.2.2.2.2 gL_law_X4_many rfl rfl rfl (by decide +kernel) ⟨Nat.le_of_ble_eq_true rfl, Nat.le_of_ble_eq_true rfl⟩) (As := [.int (iI (xs (i + 1)).toInt)]) (v := .int (iI (k_X4_many F R' ((xs (i + 1)).toInt)))) (hn := rfl) (hst := rfl) (rest := [.int (iI (k_X3_many I R ((xs (i + 1)).toInt)))]) (hW := Nat.le_of_ble_eq_true rfl) (hdg := dL_law_1133) (hf := hce) ?_
  have heq : (k_X3_many I R ((xs (i + 1)).toInt) : Int) = k_X4_many F R' ((xs (i + 1)).toInt) := (eq_many hst ((xs (i + 1)).toInt))
  have hst2 := hst
  exact lv_icmp_eq (tgt := 1141) hx hb dL_law_1136 (by decide) (fun _ => kk _ _ ⟨ad, am, I, R, F, R', rfl, rfl, hP, hD, hQ, jDM hDM, Apt_M hap, hst2⟩ hS) (fun hne => absurd (congrArg iI heq) hne)
