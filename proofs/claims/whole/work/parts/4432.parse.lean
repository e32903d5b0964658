/-! how a street is read: tokens -/
theorem in_c {c a b : Nat} {A B : Int64} (hA : A.toInt = (a : Int)) (hB : B.toInt = (b : Int)) (hc : c < 2 ^ 31) : fX10_in (nI c).toInt64 A B = if a ≤ c ∧ c ≤ b then 1 else 0 := by
  by_cases h : a ≤ c ∧ c ≤ b
  · rw [if_pos h]
    exact in_y (by rw [i64_nI, nI_toInt hc, hA]; omega) (by rw [i64_nI, nI_toInt hc, hB]; omega)
  · rw [if_neg h]
    exact in_n (by rw [i64_nI, nI_toInt hc, hA, hB]; omega)
/-- a run of figures, its value -/
def rlN (L : Nat → Nat) : Nat → Nat → Nat
  | 0, _ => 0
  | k + 1, a => if 48 ≤ L a ∧ L a ≤ 57 then rlN L k (a + 1) + 1 else 0
def vvN (L : Nat → Nat) (a : Nat) : Nat → Nat
  | 0 => 0
  | j + 1 => if 2 ≤ j then vvN L a j else vvN L a j * 10 + L (a + j) - 48
theorem rl_le (L : Nat → Nat) : ∀ k a, rlN L k a ≤ k
  | 0, _ => Nat.le_refl _
  | k + 1, a => by
    have := rl_le L k (a + 1)
    rw [rlN]
    split <;> omega
theorem vv_le {L : Nat → Nat} {a : Nat} : ∀ {j : Nat}, (∀ i, i < j → 48 ≤ L (a + i) ∧ L (a + i) ≤ 57) → vvN L a j ≤ 99 ∧ (j ≤ 1 → vvN L a j ≤ 9) ∧ (j = 0 → vvN L a j = 0)
  | 0, _ => ⟨by show 0 ≤ 99; omega, fun _ => by show 0 ≤ 9; omega, fun _ => rfl⟩
  | j + 1, h => by
    obtain ⟨i1, i2, i3⟩ := vv_le (L := L) (a := a) (j := j) (fun i hi => h i (by omega))
    have hj := h j (by omega)
    rw [vvN]
    by_cases c : 2 ≤ j
    · rw [if_pos c]
      exact ⟨i1, fun q => by omega, fun q => by omega⟩
    · rw [if_neg c]
      have i2 := i2 (by omega)
      refine ⟨by omega, fun q => ?_, fun q => by omega⟩
      have := i3 (by omega)
      omega
theorem rl_dg {L : Nat → Nat} : ∀ {k a i : Nat}, i < rlN L k a → 48 ≤ L (a + i) ∧ L (a + i) ≤ 57
  | 0, a, i, h => by
    have : i < 0 := h
    omega
  | k + 1, a, i, h => by
    rw [rlN] at h
    by_cases c : 48 ≤ L a ∧ L a ≤ 57
    · rw [if_pos c] at h
      match i with
      | 0 => exact c
      | i + 1 =>
        have := rl_dg (L := L) (k := k) (a := a + 1) (i := i) (by omega)
        rw [show a + 1 + i = a + (i + 1) by omega] at this
        exact this
    · rw [if_neg c] at h
      omega
def TP (σx σm : Sto) (s : Nat) (L : Nat → Nat) : Prop := s ≤ 90 ∧ (∀ j, j < 90 → L j < 256 ∧ σx 6 j = nI (L j) ∧ σm 10 j = nI (L j)) ∧ σm 0 12 = nI s
def XP (τ σx : Sto) (s a : Nat) (w : Nat → Nat) : Prop := (∀ k, k ≠ 5 → (k < 44 ∨ 52 ≤ k) → τ k = σx k) ∧ τ 5 1 = nI s ∧ τ 5 2 = σx 5 2 ∧ τ 5 5 = nI a ∧ VX τ 44 w
def MP (σ σm : Sto) (a : Nat) (w : Nat → Nat) : Prop := (∀ k, k ≠ 0 → k ≠ 5 → σ k = σm k) ∧ (∀ j, j < 16 → σ 0 j = σm 0 j) ∧ σ 0 16 = nI a ∧ ∀ j, j < 59 → σ 5 j = nI (w j)
def XF (τ σx : Sto) (c a : Nat) : Prop := (∀ k, k ≠ 5 → (k < 44 ∨ 52 ≤ k) → τ k = σx k) ∧ τ 5 2 = nI c ∧ τ 5 3 = nI a
def MF (σ σm : Sto) (c a : Nat) : Prop := (∀ k, k ≠ 0 → k ≠ 5 → σ k = σm k) ∧ (∀ j, j < 16 → σ 0 j = σm 0 j) ∧ σ 0 20 = nI c ∧ σ 0 17 = nI a
theorem here_M {σ σx σm : Sto} {s a : Nat} {L : Nat → Nat} (hT : TP σx σm s L) (h10 : σ 10 = σm 10) (h12 : σ 0 12 = nI s) (h16 : σ 0 16 = nI a) (ha : a ≤ s) : fX10_here σ = some (if a < s then nI (L a) else -1) := by
  have h90 := hT.1
  unfold fX10_here
  rw [h12, h16]
  by_cases c : a < s
  · rw [if_neg (nI_ge c (by omega)), vin_t (by omega) (by decide), gd_t, nI_clamp (by omega), h10, (hT.2.1 a (by omega)).2.2, if_pos c]
  · rw [if_pos (nI_le (by omega) (by omega)), if_neg c]
theorem stepL_M {σx σm σ0 : Sto} {s a : Nat} {L : Nat → Nat} (kk : Sto → Option Sto) (hT : TP σx σm s L) : ∀ (k j f : Nat) (σ : Sto), a + j + k = s → k < f → (∀ q, q ≠ 0 → σ q = σ0 q) → σ0 10 = σm 10 → (∀ q, q ≠ 16 → q ≠ 19 → σ 0 q = σ0 0 q) → σ0 0 12 = nI s → σ0 0 17 = nI a → σ 0 16 = nI (a + j) → σ 0 19 = nI (vvN L a j) → (∀ i, i < j → 48 ≤ L (a + i) ∧ L (a + i) ≤ 57) → ∃ σ', fX10_step_L131 kk f σ = kk σ' ∧ (∀ q, q ≠ 0 → σ' q = σ0 q) ∧ (∀ q, q ≠ 16 → q ≠ 19 → σ' 0 q = σ0 0 q) ∧ σ' 0 16 = nI (a + (j + rlN L k (a + j))) ∧ σ' 0 19 = nI (vvN L a (j + rlN L k (a + j))) := by
  have h90 := hT.1
  intro k
  induction k with
  | zero =>
    intro j f σ hk hf h1 h10 h2 h12 h17 h16 h19 hd
    obtain ⟨f, rfl⟩ : ∃ z, f = z + 1 := ⟨f - 1, by omega⟩
    refine ⟨σ, ?_, h1, h2, by rw [h16]; rfl, by rw [h19]; rfl⟩
    rw [fX10_step_L131, here_M hT (by rw [h1 10 (by decide)]; exact h10) (by rw [h2 12 (by decide) (by decide)]; exact h12) h16 (by omega), bd_s, if_neg (show ¬ a + j < s by omega), if_pos (by decide)]
  | succ k ih =>
    intro j f σ hk hf h1 h10 h2 h12 h17 h16 h19 hd
    obtain ⟨f, rfl⟩ : ∃ z, f = z + 1 := ⟨f - 1, by omega⟩
    have hb := (hT.2.1 (a + j) (by omega)).1
    have hv := (vv_le hd).1
    rw [fX10_step_L131, here_M hT (by rw [h1 10 (by decide)]; exact h10) (by rw [h2 12 (by decide) (by decide)]; exact h12) h16 (by omega), bd_s, bd_s, if_pos (show a + j < s by omega), in_c (a := 48) (b := 57) rfl rfl (by omega), rlN]
    by_cases c : 48 ≤ L (a + j) ∧ L (a + j) ≤ 57
    · rw [if_pos c, if_pos c, if_neg one_n0, h16, h2 17 (by decide) (by decide), h17, pk_sub (by omega), Nat.add_sub_cancel_left]
      have hd' : ∀ i, i < j + 1 → 48 ≤ L (a + i) ∧ L (a + i) ≤ 57 := fun i hi => by
        by_cases e : i = j
        · rw [e]
          exact c
        · exact hd i (by omega)
      have fin : ∀ y, y = vvN L a (j + 1) → ∃ σ', fX10_step_L131 kk f (up (up σ 0 19 (nI y)) 0 16 (nI (a + j + 1))) = kk σ' ∧ (∀ q, q ≠ 0 → σ' q = σ0 q) ∧ (∀ q, q ≠ 16 → q ≠ 19 → σ' 0 q = σ0 0 q) ∧ σ' 0 16 = nI (a + (j + (rlN L k (a + j + 1) + 1))) ∧ σ' 0 19 = nI (vvN L a (j + (rlN L k (a + j + 1) + 1))) := by
        intro y hy
        obtain ⟨σ', r1, r2, r3, r4, r5⟩ := ih (j + 1) f (up (up σ 0 19 (nI y)) 0 16 (nI (a + j + 1))) (by omega) (by omega) (fun q hq => by rw [up_k hq, up_k hq, h1 q hq]) h10 (fun q q1 q2 => by rw [up_j q1, up_j q2, h2 q q1 q2]) h12 h17 (by rw [up_i]; rfl) (by rw [up_j (by decide), up_i, hy]) hd'
        refine ⟨σ', r1, r2, r3, ?_, ?_⟩
        · rw [r4, show a + (j + 1) = a + j + 1 by omega, show j + 1 + rlN L k (a + j + 1) = j + (rlN L k (a + j + 1) + 1) by omega]
        · rw [r5, show a + (j + 1) = a + j + 1 by omega, show j + 1 + rlN L k (a + j + 1) = j + (rlN L k (a + j + 1) + 1) by omega]
      by_cases c2 : 2 ≤ j
      · rw [if_pos (show (2 : Int32) ≤ nI j from nI_le (a := 2) c2 (by omega)), un_e, un_e, up_j (by decide), h16, h19, n32_1, nI_add]
        exact fin _ (by rw [vvN, if_pos c2])
      · rw [if_neg (show ¬ (2 : Int32) ≤ nI j from nI_ge (b := 2) (by omega) (by decide)), un_e, un_e, up_j (by decide), h16, h19, n32_1, nI_add, n32_10, pk_mul, nI_add, show (48 : Int32) = nI 48 from rfl, pk_sub (by omega)]
        exact fin _ (by rw [vvN, if_neg c2, Nat.mul_comm 10])
    · rw [if_neg c, if_neg c, if_pos rfl]
      exact ⟨σ, rfl, h1, h2, by rw [h16]; rfl, by rw [h19]; rfl⟩
/-- what a token is -/
def TK (σ : Sto) (s : Nat) (L : Nat → Nat) (a : Nat) : Prop := (a = s ∧ σ 0 18 = nI 0) ∨ (a < s ∧ 97 ≤ L a ∧ L a ≤ 122 ∧ σ 0 18 = nI 1 ∧ σ 0 19 = nI (L a) ∧ σ 0 16 = nI (a + 1)) ∨ (a < s ∧ (48 ≤ L a ∧ L a ≤ 57) ∧ rlN L (s - a) a ≤ 2 ∧ σ 0 18 = nI 2 ∧ σ 0 19 = nI (vvN L a (rlN L (s - a) a)) ∧ σ 0 16 = nI (a + rlN L (s - a) a)) ∨ (a < s ∧ (48 ≤ L a ∧ L a ≤ 57) ∧ 2 < rlN L (s - a) a ∧ σ 0 18 = nI 4) ∨ (a < s ∧ (L a = 44 ∨ L a = 59) ∧ σ 0 18 = nI 3 ∧ σ 0 19 = nI (L a) ∧ σ 0 16 = nI (a + 1)) ∨ (a < s ∧ ¬ (97 ≤ L a ∧ L a ≤ 122) ∧ ¬ (48 ≤ L a ∧ L a ≤ 57) ∧ L a ≠ 44 ∧ L a ≠ 59 ∧ σ 0 18 = nI 4)
theorem step_M {σ σx σm : Sto} {s a : Nat} {L w : Nat → Nat} (hT : TP σx σm s L) (h : MP σ σm a w) (ha : a ≤ s) : ∃ σ', fX10_step σ = some σ' ∧ (∀ k, k ≠ 0 → σ' k = σ k) ∧ (∀ j, j < 16 → σ' 0 j = σ 0 j) ∧ σ' 0 17 = nI a ∧ TK σ' s L a := by
  have h90 := hT.1
  obtain ⟨m1, m2, m3, m4⟩ := h
  have m12 : σ 0 12 = nI s := by rw [m2 12 (by decide)]; exact hT.2.2
  unfold fX10_step
  rw [un_e, here_M (σ := up σ 0 17 (σ 0 16)) (a := a) hT (by rw [up_k (by decide), m1 10 (by decide) (by decide)]) (by rw [up_j (by decide)]; exact m12) (by rw [up_j (by decide)]; exact m3) ha, bd_s, un_e, up_i, m3]
  unfold fX10_step_j88 fX10_step_j93
  by_cases c : a < s
  · have hb := (hT.2.1 a (by omega)).1
    rw [if_pos c, if_pos (show (0 : Int32) ≤ nI (L a) from nI_pos' (by omega)), in_c (a := 97) (b := 122) rfl rfl (by omega), in_c (a := 48) (b := 57) rfl rfl (by omega)]
    generalize hσ : up (up σ 0 17 (nI a)) 0 19 (nI (L a)) = σ1
    have b1' : ∀ k, k ≠ 0 → σ1 k = σ k := fun k hk => by rw [← hσ, up_k hk, up_k hk]
    have b2 : ∀ j, j < 16 → σ1 0 j = σ 0 j := fun j hj => by rw [← hσ, up_j (by omega), up_j (by omega)]
    have b17 : σ1 0 17 = nI a := by rw [← hσ, up_j (by decide), up_i]
    have b16 : σ1 0 16 = nI a := by rw [← hσ, up_j (by decide), up_j (by decide)]; exact m3
    have b19 : σ1 0 19 = nI (L a) := by rw [← hσ, up_i]
    have simple : ∀ kd : Nat, kd ≠ 2 → kd ≠ 0 → kd < 5 → ∃ σ', (un (up σ1 0 18 (nI kd)) fun σ_1 => if (σ_1 0 18) = (2 : Int32) then (un (up σ_1 0 19 (0 : Int32)) fun σ_2 => fX10_step_L131 (fun σ_3 => if ((σ_3 0 16) - (σ_3 0 17)) ≤ (2 : Int32) then (un (up σ_3 0 18 (2 : Int32)) fun σ_4 => some σ_4) else (un (up σ_3 0 18 (4 : Int32)) fun σ_5 => some σ_5)) fu σ_2) else (if (σ_1 0 18) = (0 : Int32) then (un (up σ_1 0 16 ((σ_1 0 16) + (0 : Int32))) fun σ_7 => some σ_7) else (un (up σ_1 0 16 ((σ_1 0 16) + (1 : Int32))) fun σ_6 => some σ_6))) = some σ' ∧ (∀ k, k ≠ 0 → σ' k = σ k) ∧ (∀ j, j < 16 → σ' 0 j = σ 0 j) ∧ σ' 0 17 = nI a ∧ σ' 0 18 = nI kd ∧ σ' 0 19 = nI (L a) ∧ σ' 0 16 = nI (a + 1) := by
      intro kd k2 k0 k5
      refine ⟨up (up σ1 0 18 (nI kd)) 0 16 (nI (a + 1)), ?_, fun k hk => by rw [up_k hk, up_k hk, b1' k hk], fun j hj => by rw [up_j (by omega), up_j (by omega), b2 j hj], by rw [up_j (by decide), up_j (by decide)]; exact b17, by rw [up_j (by decide), up_i], by rw [up_j (by decide), up_j (by decide)]; exact b19, up_i⟩
      rw [un_e, up_i, if_neg (show ¬ nI kd = (2 : Int32) from fun q => k2 ((nI_eq (by omega) (by decide)).mp q)), if_neg (nI_n0 (by omega) k0), up_j (show (16 : Nat) ≠ 18 by decide), b16, un_e, n32_1, nI_add]
    by_cases c1 : 97 ≤ L a ∧ L a ≤ 122
    · rw [if_pos c1, if_neg one_n0]
      obtain ⟨σ', s1, s2, s3, s4, s5, s6, s7⟩ := simple 1 (by decide) (by decide) (by decide)
      exact ⟨σ', s1, s2, s3, s4, Or.inr (Or.inl ⟨c, c1.1, c1.2, s5, s6, s7⟩)⟩
    · rw [if_neg c1, if_pos rfl]
      by_cases c2 : 48 ≤ L a ∧ L a ≤ 57
      · rw [if_pos c2, if_neg one_n0, un_e, up_i, if_pos rfl, un_e]
        obtain ⟨σ', r1, r2, r3, r4, r5⟩ := stepL_M (a := a) (σ0 := up (up σ1 0 18 (2 : Int32)) 0 19 (0 : Int32)) (fun σ_3 => if ((σ_3 0 16) - (σ_3 0 17)) ≤ (2 : Int32) then (un (up σ_3 0 18 (2 : Int32)) fun σ_4 => some σ_4) else (un (up σ_3 0 18 (4 : Int32)) fun σ_5 => some σ_5)) hT (s - a) 0 fu (up (up σ1 0 18 (2 : Int32)) 0 19 (0 : Int32)) (by omega) (fu_gt (by omega)) (fun _ _ => rfl) (by rw [up_k (by decide), up_k (by decide), b1' 10 (by decide), m1 10 (by decide) (by decide)]) (fun _ _ _ => rfl) (by rw [up_j (by decide), up_j (by decide), b2 12 (by decide)]; exact m12) (by rw [up_j (by decide), up_j (by decide)]; exact b17) (by rw [up_j (by decide), up_j (by decide)]; exact b16) (by rw [up_i]; rfl) (fun i hi => by omega)
        rw [Nat.zero_add, Nat.add_zero] at r4 r5
        have r17 : σ' 0 17 = nI a := by rw [r3 17 (by decide) (by decide), up_j (by decide), up_j (by decide)]; exact b17
        have hrl := rl_le L (s - a) a
        have f1 : ∀ k, k ≠ 0 → σ' k = σ k := fun k hk => by rw [r2 k hk, up_k hk, up_k hk, b1' k hk]
        have f2 : ∀ j, j < 16 → σ' 0 j = σ 0 j := fun j hj => by rw [r3 j (by omega) (by omega), up_j (by omega), up_j (by omega), b2 j hj]
        rw [r1, r4, r17, pk_sub (by omega), Nat.add_sub_cancel_left, un_e, un_e]
        by_cases c3 : rlN L (s - a) a ≤ 2
        · rw [if_pos (show nI (rlN L (s - a) a) ≤ (2 : Int32) from nI_le (b := 2) c3 (by decide))]
          exact ⟨_, rfl, fun k hk => by rw [up_k hk, f1 k hk], fun j hj => by rw [up_j (by omega), f2 j hj], by rw [up_j (by decide)]; exact r17, Or.inr (Or.inr (Or.inl ⟨c, c2, c3, by rw [up_i]; rfl, by rw [up_j (by decide)]; exact r5, by rw [up_j (by decide)]; exact r4⟩))⟩
        · rw [if_neg (show ¬ nI (rlN L (s - a) a) ≤ (2 : Int32) from nI_ge (a := 2) (by omega) (by omega))]
          exact ⟨_, rfl, fun k hk => by rw [up_k hk, f1 k hk], fun j hj => by rw [up_j (by omega), f2 j hj], by rw [up_j (by decide)]; exact r17, Or.inr (Or.inr (Or.inr (Or.inl ⟨c, c2, by omega, by rw [up_i]; rfl⟩)))⟩
      · rw [if_neg c2, if_pos rfl]
        by_cases c4 : L a = 44
        · rw [if_pos (show nI (L a) = (44 : Int32) by rw [c4]; rfl)]
          obtain ⟨σ', s1, s2, s3, s4, s5, s6, s7⟩ := simple 3 (by decide) (by decide) (by decide)
          exact ⟨σ', s1, s2, s3, s4, Or.inr (Or.inr (Or.inr (Or.inr (Or.inl ⟨c, Or.inl c4, s5, s6, s7⟩))))⟩
        · rw [if_neg (show ¬ nI (L a) = (44 : Int32) from fun q => c4 ((nI_eq (by omega) (by decide)).mp q))]
          by_cases c5 : L a = 59
          · rw [if_pos (show nI (L a) = (59 : Int32) by rw [c5]; rfl)]
            obtain ⟨σ', s1, s2, s3, s4, s5, s6, s7⟩ := simple 3 (by decide) (by decide) (by decide)
            exact ⟨σ', s1, s2, s3, s4, Or.inr (Or.inr (Or.inr (Or.inr (Or.inl ⟨c, Or.inr c5, s5, s6, s7⟩))))⟩
          · rw [if_neg (show ¬ nI (L a) = (59 : Int32) from fun q => c5 ((nI_eq (by omega) (by decide)).mp q))]
            obtain ⟨σ', s1, s2, s3, s4, s5, s6, s7⟩ := simple 4 (by decide) (by decide) (by decide)
            exact ⟨σ', s1, s2, s3, s4, Or.inr (Or.inr (Or.inr (Or.inr (Or.inr ⟨c, c1, c2, c4, c5, s5⟩))))⟩
  · rw [if_neg c, if_neg (show ¬ (0 : Int32) ≤ (-1 : Int32) by decide), un_e, up_i, if_neg (show ¬ (0 : Int32) = (2 : Int32) by decide), if_pos rfl, un_e]
    exact ⟨_, rfl, fun k hk => by rw [up_k hk, up_k hk, up_k hk, up_k hk], fun j hj => by rw [up_j (by omega), up_j (by omega), up_j (by omega), up_j (by omega)], by rw [up_j (by decide), up_j (by decide), up_j (by decide), up_i], Or.inl ⟨by omega, by rw [up_j (by decide), up_i]; rfl⟩⟩
