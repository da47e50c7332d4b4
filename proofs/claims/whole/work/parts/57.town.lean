/-! the new town -/
section JTW
variable {I R : Nat → Nat → Int} {F : Nat → Int} {R' : Nat → Nat → Int} {fr n : Int}
theorem cpz_t {f g : Nat → Int} {N w : Nat} (h : w < N) : cpz f g 0 0 N w = f w := by
  unfold cpz
  rw [if_pos (by omega), show 0 + (w - 0) = w by omega]
theorem cpz_rng {f g : Nat → Int} {N m : Nat} {lo hi : Int} (hf : ∀ k, k < N → lo ≤ f k ∧ f k ≤ hi) (hg : ∀ k, k < m → lo ≤ g k ∧ g k ≤ hi) : ∀ k, k < m → lo ≤ cpz f g 0 0 N k ∧ cpz f g 0 0 N k ≤ hi := by
  intro k hk
  by_cases e : k < N
  · rw [cpz_t e]; exact hf k e
  · unfold cpz; rw [if_neg (by omega)]; exact hg k hk
theorem cpz_rnl {f g : Nat → Int} {N m : Nat} {lo hi : Int} (hf : ∀ k, k < N → lo ≤ f k ∧ f k < hi) (hg : ∀ k, k < m → lo ≤ g k ∧ g k < hi) : ∀ k, k < m → lo ≤ cpz f g 0 0 N k ∧ cpz f g 0 0 N k < hi := by
  intro k hk
  by_cases e : k < N
  · rw [cpz_t e]; exact hf k e
  · unfold cpz; rw [if_neg (by omega)]; exact hg k hk
theorem zb_rnl {g : Nat → Int} {N m : Nat} {hi : Int} (hh : 0 < hi) (hg : ∀ k, k < m → 0 ≤ g k ∧ g k < hi) : ∀ k, k < m → 0 ≤ zb g 0 N k ∧ zb g 0 N k < hi := by
  intro k hk
  unfold zb
  split
  · omega
  · exact hg k hk
theorem swR_row {R : Nat → Nat → Int} (k : Nat) : swR R (26 + 2 * k) = R (26 + 2 * k) := by
  unfold swR
  rw [if_pos (by omega), if_neg (by omega), if_neg (by omega)]
theorem St_new (h : St I R F R') (hf0 : F 0 = 0) (hR : Rd I R F R' fr n) (b15 : 0 ≤ F 15 ∧ F 15 ≤ 4) (b16 : 0 ≤ F 16 ∧ F 16 ≤ 6) (b13 : 1 ≤ F 13 ∧ F 13 ≤ 4) (b14 : 2 ≤ F 14 ∧ F 14 ≤ 6) (s9 : I 15 9 = 1) (s12 : I 15 12 = F 13 * F 14) (s15 : I 15 15 = 0) (s16 : I 15 16 = 0) (s17 : I 15 17 = 0) :
    St (swI I) (swR R) (u1 (u1 (u1 (u1 (u1 (u1 (u1 F 1 (F 13)) 2 (F 14)) 3 (F 15)) 7 (F 16)) 11 0) 24 0) 0 0) (uR (uR (uR (uR (uR (uR R' 4 (cpz (R' 17) (R' 4) 0 0 (Int.toNat (F 15)))) 5 (cpz (R' 18) (R' 5) 0 0 (Int.toNat (F 15)))) 6 (zb (R' 6) 0 (Int.toNat (F 15)))) 8 (cpz (R' 19) (R' 8) 0 0 (Int.toNat (F 16)))) 9 (cpz (R' 20) (R' 9) 0 0 (Int.toNat (F 16)))) 10 (cpz (R' 21) (R' 10) 0 0 (Int.toNat (F 16)))) := by
  obtain ⟨-, -, -, aw, ad, ah, ai, aW, aD, aS⟩ := hR
  have hc24 := mul_bd b13 b14
  have hT := h.vi.town
  have hM := h.mv.town
  have hTn : TI (swI I) (swR R) := ⟨by show 0 ≤ I 15 13 ∧ I 15 13 ≤ 4; omega, by show 0 ≤ I 15 14 ∧ I 15 14 ≤ 6; omega, by show 0 ≤ I 15 15 ∧ I 15 15 ≤ 2; omega, by show 0 ≤ I 15 17 ∧ I 15 17 ≤ 8; omega, by show 0 ≤ I 15 12 ∧ I 15 12 ≤ 24; omega, by
    show 0 ≤ I 15 16 ∧ I 15 16 < 2 ^ (Int.toNat (2 * I 15 13))
    rw [s16]
    exact ⟨by decide, Int.pow_pos (by decide)⟩, aS.1, aS.2.1, aS.2.2.1, aS.2.2.2.1, aS.2.2.2.2.1, aS.2.2.2.2.2.1, aS.2.2.2.2.2.2.1, aS.2.2.2.2.2.2.2⟩
  have hSn : SP (swR R) := ⟨hT.str, hT.dist, hT.nose, hT.wcell, hT.kind, hT.kcell, hT.rcell, hT.rsm⟩
  refine ⟨⟨hTn, ?_, h.vi.2.2.1, ?_, h.vi.2.2.2.2.1, hSn, h.vi.code⟩, ⟨⟨b15, b16, show 0 ≤ (0 : Int) ∧ (0 : Int) ≤ 2 by decide, show 0 ≤ (0 : Int) ∧ (0 : Int) ≤ 8 by decide, show 0 ≤ F 13 ∧ F 13 ≤ 4 by omega, show 0 ≤ F 14 ∧ F 14 ≤ 6 by omega, Or.inr ⟨b13.1, b14.1⟩, ?_, ?_, ?_, ?_, ?_, ?_, hM.rcell, hM.rsm⟩, show 0 ≤ (0 : Int) ∧ (0 : Int) ≤ 4 by decide, h.mv.2.2.1, h.mv.2.2.2⟩, ⟨aw, s15, ?_, ?_⟩, ⟨ad, ?_⟩, ⟨s17, fun x hx => absurd (show (x : Int) < 0 from hx) (by omega)⟩, ?_, s12, ?_, ?_, ?_, h.trace, ?_⟩
  · show 0 ≤ I 15 9 ∧ I 15 9 ≤ 1; omega
  · intro k hk j hj; rw [swR_row]; exact h.vi.row hk hj
  · exact cpz_rnl (fun k hk => by have := (aW k (by omega)).2.2.1; omega) hM.win
  · exact cpz_rng (fun k hk => (aW k (by omega)).2.2.2.1) hM.str
  · exact zb_rnl (by decide) hM.vane
  · exact cpz_rnl (fun k hk => by have := (aD k (by omega)).2.2.2.1; omega) hM.wcell
  · exact cpz_rng (fun k hk => (aD k (by omega)).2.2.2.2.1) hM.kind
  · exact cpz_rng (fun k hk => (aD k (by omega)).2.2.2.2.2) hM.nose
  · intro w hw
    have hw2 : (w : Int) < F 15 := hw
    show R 20 w = cpz (R' 18) (R' 5) 0 0 (Int.toNat (F 15)) w
    rw [cpz_t (by omega)]
    exact (aW w hw2).2.1
  · intro w v c hw hv hc
    have hw2 : (w : Int) < F 15 := hw
    show R 23 ((w * 4 + v) * 24 + Int.toNat c) = dsp (F 14) (cpz (R' 17) (R' 4) 0 0 (Int.toNat (F 15)) w) v c
    rw [cpz_t (by omega)]
    exact (aW w hw2).2.2.2.2 v c hv hc
  · intro k hk
    have hk2 : (k : Int) < F 16 := hk
    have hd := aD k hk2
    show R 16 k = cpz (R' 20) (R' 9) 0 0 (Int.toNat (F 16)) k ∧ R 17 k = cpz (R' 21) (R' 10) 0 0 (Int.toNat (F 16)) k ∧ R 18 k = cpz (R' 19) (R' 8) 0 0 (Int.toNat (F 16)) k ∧ 0 ≤ cpz (R' 19) (R' 8) 0 0 (Int.toNat (F 16)) k ∧ cpz (R' 19) (R' 8) 0 0 (Int.toNat (F 16)) k < F 13 * F 14
    rw [cpz_t (by omega), cpz_t (by omega), cpz_t (by omega)]
    exact ⟨hd.1, hd.2.1, hd.2.2.1, hd.2.2.2.1⟩
  · show I 15 9 = 0 ↔ F 13 = 0
    omega
  · intro w hw
    have hw2 : (w : Int) < F 15 := hw
    show zb (R' 6) 0 (Int.toNat (F 15)) w = vz (F 15) (I 15 16) w
    rw [s16]
    unfold zb vz
    rw [if_pos (by omega), Int.zero_ediv]
    rfl
  · intro w hw
    have hw2 : (w : Int) < F 15 := hw
    show R 19 w = cpz (R' 17) (R' 4) 0 0 (Int.toNat (F 15)) w
    rw [cpz_t (by omega)]
    exact (aW w hw2).1
  · show I 0 6 = 0
    rw [h.fault, hf0]
  · intro k hk
    refine ⟨(h.sh k hk).1, fun j hj => ?_⟩
    rw [swR_row]
    exact (h.sh k hk).2 j hj
end JTW
