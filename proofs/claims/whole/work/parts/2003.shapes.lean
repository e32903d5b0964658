/-! the two worlds' shapes -/
def rgV (i : Nat) : Nat := 36 + 8 * (2 + i)
def imV (i : Nat) : Nat := 36 + 8 * (26 + i)
def itV (i : Nat) : Nat := 28 + i
def shV (k : Nat) : Shp := match (k - 36) % 8 with
  | 0 => .inr (.inl (8, [none, none, none, none, none, some (k + 1), some (k + 2), some (k + 3), some (k + 4), some (k + 5), some (k + 6), some (k + 7)]))
  | 1 => .inl (0, 10)
  | 2 => .inl (0, 10)
  | 3 => .inl (0, 10)
  | _ => .inl (0, 6)
def shX (k : Nat) : Shp := match k with
  | 0 => .inr (.inl (9, [some 1, some 5, some 36, some 7, some 9, some 10, some 14, some 21, some 26, none]))
  | 1 => .inr (.inl (4, [some 2, some 3, some 4]))
  | 2 => .inr (.inr (3, 8, itV))
  | 3 => .inl (0, 8)
  | 4 => .inl (0, 8)
  | 5 => .inr (.inl (6, [some 44, none, none, none, some 6, none]))
  | 6 => .inl (0, 90)
  | 7 => .inr (.inl (3, [none, none, some 8]))
  | 8 => .inr (.inr (2, 24, rgV))
  | 9 => .inr (.inr (2, 2, imV))
  | 10 => .inr (.inl (5, [some 260, some 11, some 13, none]))
  | 11 => .inr (.inl (2, [none, some 12]))
  | 12 => .inl (0, 610)
  | 13 => .inl (0, 12)
  | 14 => .inr (.inl (1, [none, some 15, some 17, some 18, some 19, some 20, none, none]))
  | 15 => .inr (.inl (2, [none, some 16]))
  | 16 => .inl (0, 250)
  | 17 => .inl (1, 96)
  | 18 => .inl (0, 4)
  | 19 => .inl (0, 4)
  | 20 => .inl (0, 6)
  | 21 => .inr (.inl (7, [some 268, some 22, some 24, some 25, none, none]))
  | 22 => .inr (.inl (2, [none, some 23]))
  | 23 => .inl (0, 210)
  | 24 => .inl (1, 54)
  | 25 => .inl (0, 6)
  | 26 => .inr (.inl (0, [none, some 27]))
  | 27 => .inl (0, 16)
  | k + 28 => if k < 8 then .inl (0, 40) else shV (k + 28)
def tabX : List (String × String × List Int32) := [("LavaLodger", "KIND_ABOVE", [-1, 0, 1, 1, 0, 4]), ("LavaLodger$Asker", "SIZE_BODIES", [10, 11, 12, 0, 13, 14]), ("LavaLodger$Asker", "MARK_BODIES", [20, 21, 24, 22, 23, 0])]
def wkX : Wk := (shX, 276, tabX)
def shM (k : Nat) : Shp := match k with
  | 0 => .inr (.inl (10, [some 1, some 2, some 3, none, some 4, some 5, some 6, some 7, none, some 8, some 9, some 10, none, none, some 11, none, none, none, none, none, none, some 12, some 13, some 14]))
  | 1 => .inl (0, 8)
  | 2 => .inl (0, 8)
  | 3 => .inl (0, 320)
  | 4 => .inl (0, 59)
  | 5 => .inl (0, 59)
  | 6 => .inl (0, 59)
  | 7 => .inl (0, 1416)
  | 8 => .inl (0, 118)
  | 9 => .inl (1, 2)
  | 10 => .inl (0, 90)
  | 11 => .inl (0, 16)
  | 12 => .inl (0, 295)
  | 13 => .inl (0, 5)
  | _ => .inl (0, 5)
def wkM : Wk := (shM, 15, [])
def aLX (k : Nat) : Nat := match shX k with
  | .inl q => q.2
  | _ => 0
def aLM (k : Nat) : Nat := match shM k with
  | .inl q => q.2
  | _ => 0
/-- a village; a forecast; an array of ints -/
def isV (v : Nat) : Prop := ∃ j, j < 30 ∧ v = 36 + 8 * j
def isF (f : Nat) : Prop := f = 11 ∨ f = 15 ∨ f = 22
def isA (a : Nat) : Prop := wkX.1 a = .inl (0, aLX a) ∧ a < wkX.2.1
def isT (a : Nat) : Prop := wkM.1 a = .inl (0, aLM a) ∧ a < wkM.2.1
theorem shX_hi (k : Nat) (h : 36 ≤ k) : shX k = shV k := by
  obtain ⟨j, rfl⟩ : ∃ j, k = j + 28 := ⟨k - 28, by omega⟩
  show (if j < 8 then _ else shV (j + 28)) = _
  rw [if_neg (by omega)]
theorem sv_0 {v : Nat} (h : isV v) : wkX.1 v = .inr (.inl (8, [none, none, none, none, none, some (v + 1), some (v + 2), some (v + 3), some (v + 4), some (v + 5), some (v + 6), some (v + 7)])) := by
  obtain ⟨j, hj, rfl⟩ := h
  show shX _ = _
  rw [shX_hi _ (by omega)]
  unfold shV
  rw [show (36 + 8 * j - 36) % 8 = 0 by omega]
  rfl
theorem sv_a {v i n : Nat} (h : isV v) (hi : 0 < i ∧ i < 8) (hn : n = if i < 4 then 10 else 6) : wkX.1 (v + i) = .inl (0, n) := by
  obtain ⟨j, hj, rfl⟩ := h
  show shX _ = _
  rw [shX_hi _ (by omega)]
  unfold shV
  rw [show (36 + 8 * j + i - 36) % 8 = i by omega]
  subst hn
  rcases (show i = 1 ∨ i = 2 ∨ i = 3 ∨ i = 4 ∨ i = 5 ∨ i = 6 ∨ i = 7 by omega) with rfl | rfl | rfl | rfl | rfl | rfl | rfl <;> rfl
theorem sv_1 {v : Nat} (h : isV v) : wkX.1 (v + 1) = .inl (0, 10) := sv_a h (by decide) rfl
theorem sv_2 {v : Nat} (h : isV v) : wkX.1 (v + 2) = .inl (0, 10) := sv_a h (by decide) rfl
theorem sv_3 {v : Nat} (h : isV v) : wkX.1 (v + 3) = .inl (0, 10) := sv_a h (by decide) rfl
theorem sv_4 {v : Nat} (h : isV v) : wkX.1 (v + 4) = .inl (0, 6) := sv_a h (by decide) rfl
theorem sv_5 {v : Nat} (h : isV v) : wkX.1 (v + 5) = .inl (0, 6) := sv_a h (by decide) rfl
theorem sv_6 {v : Nat} (h : isV v) : wkX.1 (v + 6) = .inl (0, 6) := sv_a h (by decide) rfl
theorem sv_7 {v : Nat} (h : isV v) : wkX.1 (v + 7) = .inl (0, 6) := sv_a h (by decide) rfl
theorem kv_0 {v : Nat} (h : isV v) : v < wkX.2.1 := by
  obtain ⟨j, hj, rfl⟩ := h
  show _ < 276
  omega
theorem kv_a {v : Nat} (h : isV v) (i : Nat) (hi : i < 8) : v + i < wkX.2.1 := by
  obtain ⟨j, hj, rfl⟩ := h
  show _ < 276
  omega
theorem kv_1 {v : Nat} (h : isV v) : v + 1 < wkX.2.1 := kv_a h 1 (by decide)
theorem kv_2 {v : Nat} (h : isV v) : v + 2 < wkX.2.1 := kv_a h 2 (by decide)
theorem kv_3 {v : Nat} (h : isV v) : v + 3 < wkX.2.1 := kv_a h 3 (by decide)
theorem kv_4 {v : Nat} (h : isV v) : v + 4 < wkX.2.1 := kv_a h 4 (by decide)
theorem kv_5 {v : Nat} (h : isV v) : v + 5 < wkX.2.1 := kv_a h 5 (by decide)
theorem kv_6 {v : Nat} (h : isV v) : v + 6 < wkX.2.1 := kv_a h 6 (by decide)
theorem kv_7 {v : Nat} (h : isV v) : v + 7 < wkX.2.1 := kv_a h 7 (by decide)
theorem iv_36 : isV 36 := ⟨0, by decide, rfl⟩
theorem iv_44 : isV 44 := ⟨1, by decide, rfl⟩
theorem iv_260 : isV 260 := ⟨28, by decide, rfl⟩
theorem iv_268 : isV 268 := ⟨29, by decide, rfl⟩
theorem vin_lt {i : Int32} {n : Nat} (h : vin i n = true) : i.toNatClampNeg < n := Nat.not_le.mp fun q => (vin_in h) (Or.inr q)
theorem iv_rg {i : Int32} (h : vin i 24 = true) : isV (rgV i.toNatClampNeg) := ⟨2 + i.toNatClampNeg, by have := vin_lt h; omega, rfl⟩
theorem iv_im {i : Int32} (h : vin i 2 = true) : isV (imV i.toNatClampNeg) := ⟨26 + i.toNatClampNeg, by have := vin_lt h; omega, rfl⟩
theorem sx_it {i : Int32} (h : vin i 8 = true) : wkX.1 (itV i.toNatClampNeg) = .inl (0, 40) := by
  have h8 := vin_lt h
  generalize i.toNatClampNeg = k at h8
  show shX (28 + k) = _
  rw [show 28 + k = k + 28 by omega]
  show (if k < 8 then _ else shV (k + 28)) = _
  rw [if_pos h8]
theorem kx_it {i : Int32} (h : vin i 8 = true) : itV i.toNatClampNeg < wkX.2.1 := by
  have h8 := vin_lt h
  show 28 + _ < 276
  omega
theorem sf_0 {f : Nat} (h : isF f) : wkX.1 f = .inr (.inl (2, [none, some (f + 1)])) := by
  rcases h with rfl | rfl | rfl <;> rfl
theorem sf_1 {f : Nat} (h : isF f) : wkX.1 (f + 1) = .inl (0, aLX (f + 1)) := by
  rcases h with rfl | rfl | rfl <;> rfl
theorem kf_0 {f : Nat} (h : isF f) : f < wkX.2.1 := by
  rcases h with rfl | rfl | rfl <;> decide
theorem kf_1 {f : Nat} (h : isF f) : f + 1 < wkX.2.1 := by
  rcases h with rfl | rfl | rfl <;> decide
