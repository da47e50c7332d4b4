/-! town -/
section JTX
variable {I R : Nat → Nat → Int} {F : Nat → Int} {R' : Nat → Nat → Int}
theorem u1_ch {f : Nat → Int} {a b c d : Int} : u1 (u1 (u1 (u1 (u1 (u1 (u1 (u1 f 0 0) 1 a) 2 b) 3 c) 7 d) 11 0) 24 0) 0 0 = u1 (u1 (u1 (u1 (u1 (u1 (u1 f 1 a) 2 b) 3 c) 7 d) 11 0) 24 0) 0 0 := by
  funext q
  by_cases h0 : q = 0
  · simp [u1, h0]
  · simp [u1, h0]
theorem eq_town (h : St I R F R') (sheet lane i n : Int) : Same (k_X3_town I R sheet lane i n) (k_X4_town F R' sheet lane i n) := by
  unfold k_X3_town k_X4_town
  by_cases e : 0 ≤ sheet ∧ sheet < 4
  · rw [if_pos e, if_neg (show ¬ ¬ (0 ≤ sheet ∧ sheet ≤ 3) by omega)]
    have hk : Int.toNat sheet < 4 := by omega
    by_cases e2 : 0 ≤ lane ∧ lane ≤ 2
    · rw [if_pos e2, if_pos e2, ft_ftm h hk e2.1]
      by_cases e4 : ftm (R' 27 (Int.toNat sheet)) (R' 28 (Int.toNat sheet)) lane i n = 0
      · rw [if_pos e4, if_pos e4]
        have hx := ftm_0 e4
        have hz := h.mv.size hk
        have hrow := (h.sh (Int.toNat sheet) hk).2
        have hfr : 0 ≤ 60 * sheet + i ∧ 0 ≤ n ∧ 60 * sheet + i + n ≤ 240 := by omega
        have hcd := lcd_rng h.vi (k := Int.toNat sheet) hk (f := Int.toNat i) (n := Int.toNat n) (by omega)
        have hri := ri_rt (I := u2 (u2 (u2 I 0 6 0) 2 2 0) 2 1 n) (R := uR R 3 (lcd (R 3) (R (26 + 2 * Int.toNat sheet)) (Int.toNat i) (Int.toNat n))) (F := F) (R' := R') (fr := 60 * sheet + i) (n := n) rfl rfl (fun p hp => by
          show lcd (R 3) (R (26 + 2 * Int.toNat sheet)) (Int.toNat i) (Int.toNat n) p = _
          unfold lcd
          rw [if_pos (by omega), hrow _ (by omega), show 60 * Int.toNat sheet + (Int.toNat i + p) = Int.toNat (60 * sheet + i + (p : Int)) by omega]) hfr (by omega) hcd h.mv.2.2.2 h.vi.spare
        have hrt := rt_ok (F := F) (R := R') hfr h.mv.2.2.2
        generalize k_X1_readInto (u2 (u2 (u2 I 0 6 0) 2 2 0) 2 1 n) (uR R 3 (lcd (R 3) (R (26 + 2 * Int.toNat sheet)) (Int.toNat i) (Int.toNat n))) = K at hri ⊢
        generalize k_X4_readsTown F R' (60 * sheet + i) n = K' at hri hrt ⊢
        obtain ⟨k1, k2, k3, k4, k5, k6⟩ := hri
        obtain ⟨t1, t12, t15, t16, tF, tR, t13⟩ := hrt
        have hf := h.flt (x := 0) (by decide)
        have hst : St K.2.1 K.2.2 (u1 K'.2.1 0 0) K'.2.2 := hf.frm (fun q f a b => (k4 q f a b).trans (by simp only [u2, if_neg a])) (fun q a b => (k3 q b).trans (uR_n a)) (fun q hq => by
          by_cases e0 : q = 0
          · rw [e0, u1_s, u1_s]
          · rw [u1_n e0, u1_n e0]; exact tF q hq) tR k5 (by rw [k3 3 (by decide), uR_s]; exact hcd)
        by_cases ek : K'.1 = 0
        · rw [if_pos (k1.trans ek), if_pos ek, k2]
          exact ⟨rfl, hst⟩
        · rw [if_neg (fun q => ek (k1.symm.trans q)), if_neg ek]
          have ek1 := t1.resolve_left ek
          obtain ⟨hRd, s9, s12, s15, s16, s17⟩ := k6 (k1.trans ek1)
          have hb := t13 ek1
          have hn := St_new hst u1_s (fr := 60 * sheet + i) (n := n) hRd t15 t16 hb.1 hb.2 s9 s12 s15 s16 s17
          refine ⟨hRd.2.2.2.2.1, ?_⟩
          rw [u1_ch] at hn
          exact hn
      · rw [if_neg e4, if_neg e4, u2_u]
        exact ⟨rfl, h.flt ftm_bd⟩
    · rw [if_neg e2, if_neg e2]; exact ⟨rfl, h.flt (by decide)⟩
  · rw [if_neg e, if_pos (show ¬ (0 ≤ sheet ∧ sheet ≤ 3) by omega)]; exact ⟨rfl, h.flt (by decide)⟩
end JTX
