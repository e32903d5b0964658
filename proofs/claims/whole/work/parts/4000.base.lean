/-! numbers: an Int32 that is a small natural number; how the functions' pieces are evaluated -/
theorem gd_t {α : Type} (x : Option α) : gd true x = x := rfl
theorem bd_s {α β : Type} (a : α) (f : α → Option β) : bd (some a) f = f a := rfl
theorem vin_t {a n : Nat} (h : a < n) (hn : n < 2 ^ 31) : vin (nI a) n = true := by
  simp only [vin, Bool.not_eq_true', Bool.or_eq_false_iff, decide_eq_false_iff_not]
  exact ⟨nI_pos (by omega), by rw [nI_clamp (by omega)]; omega⟩
theorem n32_0 : (0 : Int32) = nI 0 := rfl
theorem n32_1 : (1 : Int32) = nI 1 := rfl
theorem n32_2 : (2 : Int32) = nI 2 := rfl
theorem n32_3 : (3 : Int32) = nI 3 := rfl
theorem n32_4 : (4 : Int32) = nI 4 := rfl
theorem n32_5 : (5 : Int32) = nI 5 := rfl
theorem n32_6 : (6 : Int32) = nI 6 := rfl
theorem n32_7 : (7 : Int32) = nI 7 := rfl
theorem n32_8 : (8 : Int32) = nI 8 := rfl
theorem n32_9 : (9 : Int32) = nI 9 := rfl
theorem n32_10 : (10 : Int32) = nI 10 := rfl
theorem n32_12 : (12 : Int32) = nI 12 := rfl
theorem n32_13 : (13 : Int32) = nI 13 := rfl
theorem n32_14 : (14 : Int32) = nI 14 := rfl
theorem n32_15 : (15 : Int32) = nI 15 := rfl
theorem n32_16 : (16 : Int32) = nI 16 := rfl
theorem n32_20 : (20 : Int32) = nI 20 := rfl
theorem n32_23 : (23 : Int32) = nI 23 := rfl
theorem n32_24 : (24 : Int32) = nI 24 := rfl
theorem n32_25 : (25 : Int32) = nI 25 := rfl
theorem n32_30 : (30 : Int32) = nI 30 := rfl
theorem n32_31 : (31 : Int32) = nI 31 := rfl
theorem n32_35 : (35 : Int32) = nI 35 := rfl
theorem n32_40 : (40 : Int32) = nI 40 := rfl
theorem n32_41 : (41 : Int32) = nI 41 := rfl
theorem n32_47 : (47 : Int32) = nI 47 := rfl
theorem n32_53 : (53 : Int32) = nI 53 := rfl
theorem n32_54 : (54 : Int32) = nI 54 := rfl
theorem n32_59 : (59 : Int32) = nI 59 := rfl
theorem n32_60 : (60 : Int32) = nI 60 := rfl
theorem n32_61 : (61 : Int32) = nI 61 := rfl
theorem n32_64 : (64 : Int32) = nI 64 := rfl
theorem n32_90 : (90 : Int32) = nI 90 := rfl
theorem n32_99 : (99 : Int32) = nI 99 := rfl
theorem n32_100 : (100 : Int32) = nI 100 := rfl
theorem n32_255 : (255 : Int32) = nI 255 := rfl
theorem n32_999 : (999 : Int32) = nI 999 := rfl
theorem n32_1357 : (1357 : Int32) = nI 1357 := rfl
theorem irm_n {a d : Nat} (ha : a < 2 ^ 31) (h0 : 0 < d) (hd : d < 2 ^ 31) : irm (nI a) (nI d) = nI (a % d) := pk_rem ha h0 hd
theorem or_n (a b : Nat) : nI a ||| nI b = nI (a ||| b) := by
  apply Int32.toBitVec_inj.mp
  simp [nI, BitVec.ofNat_or]
theorem and_n (a b : Nat) : nI a &&& nI b = nI (a &&& b) := by
  apply Int32.toBitVec_inj.mp
  simp [nI, BitVec.ofNat_and]
theorem s31_n : ∀ k, k < 32 → ((nI k &&& 31).toBitVec.smod 32).toNat = k := by decide
theorem shl_n {n k : Nat} (hk : k < 32) (h : n * 2 ^ k < 2 ^ 32) : nI n <<< (nI k &&& (31 : Int32)) = nI (n * 2 ^ k) := pk_shlN _ k (s31_n k hk) h
theorem shl1_n {k : Nat} (hk : k < 31) : nI 1 <<< (nI k &&& (31 : Int32)) = nI (2 ^ k) := by
  have h : 2 ^ k < 2 ^ 32 := Nat.pow_lt_pow_right (by decide) (by omega)
  rw [shl_n (by omega) (by rw [Nat.one_mul]; exact h), Nat.one_mul]
theorem shr_n {n k : Nat} (hk : k < 32) (h : n < 2 ^ 31) : nI n >>> (nI k &&& (31 : Int32)) = nI (n / 2 ^ k) := pk_shrN h _ k (s31_n k hk)
/-- a number of the script within bounds -/
def inR (x : Int32) (a b : Nat) : Prop := (a : Int) ≤ x.toInt ∧ x.toInt < (b : Int)
theorem inR_dec (x : Int32) (a b : Nat) : inR x a b ∨ ¬ inR x a b := Classical.em _
theorem inR_of {x : Int32} {a b : Nat} (h : inR x a b) : ∃ k, a ≤ k ∧ k < b ∧ x = nI k := by
  have h0 : ¬ x < 0 := by
    rw [Int32.lt_iff_toInt_lt]
    have := h.1
    show ¬ x.toInt < 0
    omega
  obtain ⟨j, hj, rfl⟩ := nI_of h0
  have h1 := h.1
  have h2 := h.2
  rw [nI_toInt hj] at h1 h2
  exact ⟨j, by omega, by omega, rfl⟩
theorem inR_nI {k a b : Nat} (hk : k < 2 ^ 31) : inR (nI k) a b ↔ a ≤ k ∧ k < b := by
  unfold inR
  rw [nI_toInt hk]
  omega
def b01 (p : Prop) (d : Decidable p) : Int32 := @ite Int32 p d 1 0
theorem le_nI {x : Int32} {a : Nat} (ha : a < 2 ^ 31) : nI a ≤ x ↔ (a : Int) ≤ x.toInt := by rw [Int32.le_iff_toInt_le, nI_toInt ha]
theorem nI_le' {x : Int32} {a : Nat} (ha : a < 2 ^ 31) : x ≤ nI a ↔ x.toInt ≤ (a : Int) := by rw [Int32.le_iff_toInt_le, nI_toInt ha]
theorem lt_nI {x : Int32} {a : Nat} (ha : a < 2 ^ 31) : nI a < x ↔ (a : Int) < x.toInt := by rw [Int32.lt_iff_toInt_lt, nI_toInt ha]
theorem nI_lt' {x : Int32} {a : Nat} (ha : a < 2 ^ 31) : x < nI a ↔ x.toInt < (a : Int) := by rw [Int32.lt_iff_toInt_lt, nI_toInt ha]
theorem within_y {x : Int32} {a b : Nat} (ha : a < 2 ^ 31) (hb : b < 2 ^ 31) (h : inR x a (b + 1)) : fX9_within x (nI a) (nI b) = 1 := by
  unfold fX9_within
  rw [if_neg (by rw [nI_lt' ha]; have := h.1; omega), if_neg (by rw [lt_nI hb]; have := h.2; omega)]
theorem within_n {x : Int32} {a b : Nat} (ha : a < 2 ^ 31) (hb : b < 2 ^ 31) (h : ¬ inR x a (b + 1)) : fX9_within x (nI a) (nI b) = 0 := by
  unfold fX9_within
  by_cases h1 : x < nI a
  · rw [if_pos h1]
  · rw [if_neg h1, if_pos]
    rw [nI_lt' ha] at h1
    rw [lt_nI hb]
    apply Classical.byContradiction
    intro h2
    exact h ⟨by omega, by omega⟩
theorem i64_nI {x : Int32} : x.toInt64.toInt = x.toInt := by simp
theorem lcmp_lt (x y : Int64) : lg_cmp x y < 0 ↔ x.toInt < y.toInt := by
  rw [← Int64.lt_iff_toInt_lt]
  unfold lg_cmp
  by_cases h : y < x
  · have h2 : ¬ x < y := fun q => by
      rw [Int64.lt_iff_toInt_lt] at h q
      omega
    simp [h, h2]
  · by_cases h3 : x < y
    · have : ¬ x = y := fun q => by
        subst q
        rw [Int64.lt_iff_toInt_lt] at h3
        omega
      simp [h, h3, this]
    · have : x = y := by
        apply Int64.toInt_inj.mp
        rw [Int64.lt_iff_toInt_lt] at h h3
        omega
      simp [this]
theorem lcmp_gt (x y : Int64) : 0 < lg_cmp x y ↔ y.toInt < x.toInt := by
  rw [← Int64.lt_iff_toInt_lt]
  unfold lg_cmp
  by_cases h : y < x
  · simp [h]
  · by_cases h3 : x = y
    · simp [h3]
    · simp [h, h3]
theorem in_y {x a b : Int64} (h1 : a.toInt ≤ x.toInt) (h2 : x.toInt ≤ b.toInt) : fX10_in x a b = 1 := by
  unfold fX10_in
  rw [if_neg (by rw [lcmp_lt]; omega), if_neg (by rw [lcmp_gt]; omega)]
theorem in_n {x a b : Int64} (h : ¬ (a.toInt ≤ x.toInt ∧ x.toInt ≤ b.toInt)) : fX10_in x a b = 0 := by
  unfold fX10_in
  by_cases h1 : x.toInt < a.toInt
  · rw [if_pos (by rw [lcmp_lt]; exact h1)]
  · rw [if_neg (by rw [lcmp_lt]; exact h1), if_pos]
    rw [lcmp_gt]
    omega
