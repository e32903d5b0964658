/-! the program's pace, place after a day -/
theorem bit_0 {A : Prop} [Decidable A] : (nI (if A then 1 else 0) = (0 : Int32)) ↔ ¬ A := by
  by_cases h : A
  · rw [if_pos h]
    exact ⟨fun q => absurd q (by decide), fun q => absurd h q⟩
  · rw [if_neg h]
    exact ⟨fun _ => h, fun _ => rfl⟩
theorem nI_lit {n k : Nat} (hn : n < 2 ^ 31) (hk : k < 2 ^ 31) : nI n = nI k ↔ n = k := nI_eq hn hk
theorem pace57 {a : Nat} {σ : Sto} {so d : Nat} {A B C : Prop} [Decidable A] [Decidable B] [Decidable C] (hso : so < 2 ^ 31) (hd : d < 2 ^ 31) :
    fX8_pace_j57 a σ (nI so) (nI d) (nI (if A then 1 else 0)) (nI (if B then 1 else 0)) (nI (if C then 1 else 0)) = some (nI (if so = 2 then (if A then 2 else 0) else if so = 3 then (if d % 2 = 0 ∧ (A ∨ B) then 1 else 0) else if so = 4 then (if A ∨ B ∨ C then 1 else 0) else if so = 5 then (if A then 2 else if B ∨ C then 1 else 0) else if A ∨ B then 1 else 0)) := by
  have s2 : nI so = (2 : Int32) ↔ so = 2 := nI_eq hso (by decide)
  have s3 : nI so = (3 : Int32) ↔ so = 3 := nI_eq hso (by decide)
  have s4 : nI so = (4 : Int32) ↔ so = 4 := nI_eq hso (by decide)
  have s5 : nI so = (5 : Int32) ↔ so = 5 := nI_eq hso (by decide)
  have sd : irm (nI d) (2 : Int32) = (0 : Int32) ↔ d % 2 = 0 := by
    rw [n32_2, irm_n hd (by decide) (by decide)]
    exact nI_eq (by omega) (by decide)
  unfold fX8_pace_j57 fX8_pace_j124 fX8_pace_j120 fX8_pace_j150 fX8_pace_j145 fX8_pace_j177 fX8_pace_j172 fX8_pace_j197 fX8_pace_j192 fX8_pace_j125 fX8_pace_j150 fX8_pace_j177 fX8_pace_j197 fX8_pace_j199
  simp only [s2, s3, s4, s5, sd, bit_0]
  by_cases e2 : so = 2
  · by_cases hA : A
    · simp [e2, hA]; rfl
    · simp [e2, hA]; rfl
  · by_cases e3 : so = 3
    · by_cases hd2 : d % 2 = 0
      · by_cases hA : A
        · simp [e3, hA, hd2]; rfl
        · by_cases hB : B
          · simp [e3, hA, hB, hd2]; rfl
          · simp [e3, hA, hB, hd2]; rfl
      · simp [e3, hd2]; rfl
    · by_cases e4 : so = 4
      · by_cases hA : A
        · simp [e4, hA]; rfl
        · by_cases hB : B
          · simp [e4, hA, hB]; rfl
          · by_cases hC : C
            · simp [e4, hA, hB, hC]; rfl
            · simp [e4, hA, hB, hC]; rfl
      · by_cases e5 : so = 5
        · by_cases hA : A
          · simp [e5, hA]; rfl
          · by_cases hB : B
            · simp [e5, hA, hB]; rfl
            · by_cases hC : C
              · simp [e5, hA, hB, hC]; rfl
              · simp [e5, hA, hB, hC]; rfl
        · by_cases hA : A
          · simp [e2, e3, e4, e5, hA]; rfl
          · by_cases hB : B
            · simp [e2, e3, e4, e5, hA, hB]; rfl
            · simp [e2, e3, e4, e5, hA, hB]; rfl
theorem pace_X {σ : Sto} {a o so ro d : Nat} {L : Nat → Nat} (hl : ∀ r, r ≤ ro → σ a (o + r) = nI (L r)) (hL : ∀ r, r ≤ ro → L r < 2 ^ 30) (ho : o + ro < aLX a) (ha : aLX a < 2 ^ 28) (hso : so < 2 ^ 31) (hd : d < 2 ^ 31) : fX8_pace σ (nI so) (nI ro) a (nI o) (nI d) = some (nI (pcN so ro L d)) := by
  have l0 := hl ro (Nat.le_refl _)
  have l1 := hl (ro - 1) (by omega)
  have l2 := hl (ro - 2) (by omega)
  have b0 := hL ro (Nat.le_refl _)
  have b1 := hL (ro - 1) (by omega)
  have b2 := hL (ro - 2) (by omega)
  have p0 : ∀ x : Nat, x < 2 ^ 30 → (nI x ≤ (0 : Int32) ↔ ¬ 0 < x) := fun x hx => by
    rw [n32_0]
    constructor
    · intro q hq
      exact nI_nle hq (by omega) q
    · intro q
      exact nI_le (by omega) (by decide)
  have fin := fun (A B C : Prop) (_ : Decidable A) (_ : Decidable B) (_ : Decidable C) => pace57 (a := a) (σ := σ) (so := so) (d := d) (A := A) (B := B) (C := C) hso hd
  have s3 : ∀ A B : Prop, ∀ _ : Decidable A, ∀ _ : Decidable B, fX8_pace_j35 a σ (nI so) (nI ro) (nI o) (nI d) (nI (if A then 1 else 0)) (nI (if B then 1 else 0)) = fX8_pace_j57 a σ (nI so) (nI d) (nI (if A then 1 else 0)) (nI (if B then 1 else 0)) (nI (if 2 ≤ ro ∧ 0 < L (ro - 2) then 1 else 0)) := by
    intro A B _ _
    unfold fX8_pace_j35 fX8_pace_j56
    by_cases c : ro < 2
    · rw [n32_2, if_pos (nI_lt c (by decide)), if_neg (show ¬ (2 ≤ ro ∧ 0 < L (ro - 2)) from fun q => by omega)]
      rfl
    · rw [n32_2, if_neg (nI_nlt (by omega) (by omega)), nI_add, pk_sub (by omega), vin_t (by omega) (by omega), gd_t, nI_clamp (by omega), show o + ro - 2 = o + (ro - 2) by omega, l2]
      by_cases e : 0 < L (ro - 2)
      · rw [if_neg (fun q => ((p0 _ b2).mp q) e), if_pos (show 2 ≤ ro ∧ 0 < L (ro - 2) from ⟨by omega, e⟩)]
        rfl
      · rw [if_pos ((p0 _ b2).mpr e), if_neg (show ¬ (2 ≤ ro ∧ 0 < L (ro - 2)) from fun q => e q.2)]
        rfl
  have s2 : ∀ A : Prop, ∀ _ : Decidable A, fX8_pace_j13 a σ (nI so) (nI ro) (nI o) (nI d) (nI (if A then 1 else 0)) = fX8_pace_j35 a σ (nI so) (nI ro) (nI o) (nI d) (nI (if A then 1 else 0)) (nI (if 1 ≤ ro ∧ 0 < L (ro - 1) then 1 else 0)) := by
    intro A _
    unfold fX8_pace_j13 fX8_pace_j34
    by_cases c : ro < 1
    · rw [n32_1, if_pos (nI_lt c (by decide)), if_neg (show ¬ (1 ≤ ro ∧ 0 < L (ro - 1)) from fun q => by omega)]
      rfl
    · rw [n32_1, if_neg (nI_nlt (by omega) (by omega)), nI_add, pk_sub (by omega), vin_t (by omega) (by omega), gd_t, nI_clamp (by omega), show o + ro - 1 = o + (ro - 1) by omega, l1]
      by_cases e : 0 < L (ro - 1)
      · rw [if_neg (fun q => ((p0 _ b1).mp q) e), if_pos (show 1 ≤ ro ∧ 0 < L (ro - 1) from ⟨by omega, e⟩)]
      · rw [if_pos ((p0 _ b1).mpr e), if_neg (show ¬ (1 ≤ ro ∧ 0 < L (ro - 1)) from fun q => e q.2)]
        rfl
  have s1 : fX8_pace σ (nI so) (nI ro) a (nI o) (nI d) = fX8_pace_j13 a σ (nI so) (nI ro) (nI o) (nI d) (nI (if 0 < L ro then 1 else 0)) := by
    unfold fX8_pace
    rw [nI_add, vin_t (by omega) (by omega), gd_t, nI_clamp (by omega), l0]
    by_cases e : 0 < L ro
    · rw [if_neg (fun q => ((p0 _ b0).mp q) e), if_pos e]
      rfl
    · rw [if_pos ((p0 _ b0).mpr e), if_neg e]
      rfl
  rw [s1, s2, s3, fin]
  rfl
theorem gone_X {σ : Sto} {v R p q : Nat} (h0 : σ v 0 = nI R) (hR : R < 100) (hp : p + q < 100) : fX8_goneOn σ v (nI p) (nI q) = nI (if R ≤ p + q then 20 else p + q) := by
  unfold fX8_goneOn
  rw [h0, nI_add]
  by_cases c : R ≤ p + q
  · rw [if_pos (nI_le c (by omega)), if_pos c]
    rfl
  · rw [if_neg (nI_ge (by omega) (by omega)), if_neg c]
theorem after_X {σ : Sto} {v a o R so hi d p : Nat} {L : Nat → Nat} (h0 : σ v 0 = nI R) (hR : R ≤ 10) (hl : ∀ r, r < R → σ a (o + r) = nI (L r)) (hL : ∀ r, r < R → L r < 2 ^ 30) (ho : o + R ≤ aLX a) (ha : aLX a < 2 ^ 28) (hso : so < 2 ^ 31) (hd : d < 2 ^ 31) (hhi : hi < 2 ^ 31) (hp : p < 20 → p < R) (hp2 : p < 100) : fX8_placeAfter σ v (nI p) (nI so) (nI hi) a (nI o) (nI d) = some (nI (plN R L d so hi p)) := by
  unfold fX8_placeAfter plN
  rw [n32_20]
  by_cases c : p < 20
  · have hpR := hp c
    have hpc := pc_le so p L d
    rw [if_pos (nI_lt c (by decide)), pace_X (fun r hr => hl r (by omega)) (fun r hr => hL r (by omega)) (by omega) ha hso hd, bd_s, gone_X h0 (by omega) (by omega), if_neg (show ¬ 20 ≤ p by omega)]
    simp only [un]
    by_cases e : R ≤ p + pcN so p L d
    · rw [if_pos e, if_pos e, if_pos rfl]
    · rw [if_neg e, if_neg e, if_neg (fun q => by have := (nI_eq (by omega) (by decide)).mp q; omega), nI_add, vin_t (by omega) (by omega), gd_t, nI_clamp (by omega), hl _ (by omega)]
      have := hL (p + pcN so p L d) (by omega)
      by_cases f : hi ≤ L (p + pcN so p L d)
      · rw [if_pos (nI_le f (by omega)), if_pos f, n32_30, nI_add]
      · rw [if_neg (nI_ge (by omega) (by omega)), if_neg f]
  · rw [if_neg (nI_nlt (by omega) (by omega)), if_pos (by omega)]
