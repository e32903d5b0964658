/-! what holds between the program's store and the reference's -/
def okD (u : Nat → Nat) : Prop := okV u ∧ u 4 ≤ 999
def iNow (σx σm : Sto) (u : Nat → Nat) : Prop := VX σx 36 u ∧ (∀ j, j < 59 → σm 4 j = nI (u j)) ∧ (okD u ∨ ∀ j, j < 59 → u j = 0)
def iPast (σx σm : Sto) (n o : Nat) (P : Nat → Nat → Nat) : Prop := σx 7 0 = nI n ∧ σx 7 1 = nI o ∧ σm 0 8 = nI n ∧ n ≤ 24 ∧ o < 24 ∧ ∀ k, k < n → VX σx (rgV ((o + k) % 24)) (P k) ∧ (∀ j, j < 59 → σm 7 (59 * k + j) = nI (P k j)) ∧ okD (P k)
def iImg (σx σm : Sto) : Prop := ∀ i, i < 2 → (σm 9 i = 0 ∧ σx (imV i) 0 = 0) ∨ (σm 9 i = 1 ∧ ∃ w, VX σx (imV i) w ∧ (∀ j, j < 59 → σm 8 (59 * i + j) = nI (w j)) ∧ okD w)
def iRow (σx σm : Sto) (i : Nat) : Prop := (σx 3 i = -1 ∧ σm 2 i = -1) ∨ ∃ l s, l ≤ 2 ∧ s ≤ 40 ∧ σx 3 i = nI l ∧ σm 1 i = nI l ∧ σx 4 i = nI s ∧ σm 2 i = nI s
def iRows (σx σm : Sto) : Prop := ∀ i, i < 8 → iRow σx σm i ∧ ∀ j, j < 40 → σx (itV i) j = σm 3 (40 * i + j)
def iTape (σx σm : Sto) : Prop := (∃ s, s ≤ 90 ∧ σx 5 1 = nI s ∧ σm 0 12 = nI s) ∧ (∀ j, j < 90 → σx 6 j = σm 10 j ∧ ∃ b, b < 256 ∧ σm 10 j = nI b) ∧ σx 5 2 = σm 0 13
def iTrace (σx σm : Sto) : Prop := ∃ t, t ≤ 16 ∧ σx 26 0 = nI t ∧ σm 0 15 = nI t ∧ ∀ j, j < t → σx 27 j = σm 11 j
def iSt (σx σm : Sto) : Prop := σx 0 9 = σm 0 3
def iScr (σx : Sto) : Prop := σx 11 0 = nI 60 ∧ σx 15 0 = nI 24 ∧ σx 22 0 = nI 20 ∧ (∀ j, j < 6 → σx 20 j = 0) ∧ (∀ j, j < 6 → σx 25 j = 0) ∧ σx 21 4 = 0
def Inv (σx σm : Sto) : Prop := (∃ u, iNow σx σm u) ∧ (∃ n o P, iPast σx σm n o P) ∧ iImg σx σm ∧ iRows σx σm ∧ iTape σx σm ∧ iTrace σx σm ∧ iSt σx σm ∧ iScr σx
theorem iNow_fr {σx σm τx τm : Sto} {u : Nat → Nat} (h : iNow σx σm u) (e1 : ∀ k, 36 ≤ k → k < 44 → τx k = σx k) (e2 : τm 4 = σm 4) : iNow τx τm u := ⟨VX_fr h.1 (fun k h1 h2 => e1 k h1 h2), fun j hj => by rw [e2]; exact h.2.1 j hj, h.2.2⟩
theorem rg_b {i : Nat} (h : i < 24) : 52 ≤ rgV i ∧ rgV i + 8 ≤ 244 := by
  unfold rgV
  omega
theorem im_b {i : Nat} (h : i < 2) : 244 ≤ imV i ∧ imV i + 8 ≤ 260 := by
  unfold imV
  omega
theorem iPast_fr {σx σm τx τm : Sto} {n o : Nat} {P : Nat → Nat → Nat} (h : iPast σx σm n o P) (e1 : ∀ k, 52 ≤ k → k < 244 → τx k = σx k) (e7 : τx 7 = σx 7) (e2 : τm 7 = σm 7) (e0 : τm 0 8 = σm 0 8) : iPast τx τm n o P := by
  obtain ⟨h1, h2, h3, h4, h5, h6⟩ := h
  refine ⟨by rw [e7]; exact h1, by rw [e7]; exact h2, by rw [e0]; exact h3, h4, h5, fun k hk => ?_⟩
  obtain ⟨a1, a2, a3⟩ := h6 k hk
  have hb := rg_b (show (o + k) % 24 < 24 from Nat.mod_lt _ (by decide))
  exact ⟨VX_fr a1 (fun j h1 h2 => e1 j (by omega) (by omega)), fun j hj => by rw [e2]; exact a2 j hj, a3⟩
theorem iImg_fr {σx σm τx τm : Sto} (h : iImg σx σm) (e1 : ∀ k, 244 ≤ k → k < 260 → τx k = σx k) (e8 : τm 8 = σm 8) (e9 : τm 9 = σm 9) : iImg τx τm := by
  intro i hi
  have hb := im_b hi
  rcases h i hi with ⟨a1, a2⟩ | ⟨a1, w, a2, a3, a4⟩
  · exact Or.inl ⟨by rw [e9]; exact a1, by rw [e1 _ (by omega) (by omega)]; exact a2⟩
  · exact Or.inr ⟨by rw [e9]; exact a1, w, VX_fr a2 (fun j h1 h2 => e1 j (by omega) (by omega)), fun j hj => by rw [e8]; exact a3 j hj, a4⟩
theorem iRows_fr {σx σm τx τm : Sto} (h : iRows σx σm) (e3 : τx 3 = σx 3) (e4 : τx 4 = σx 4) (e1 : ∀ k, 28 ≤ k → k < 36 → τx k = σx k) (m1 : τm 1 = σm 1) (m2 : τm 2 = σm 2) (m3 : τm 3 = σm 3) : iRows τx τm := by
  intro i hi
  obtain ⟨a1, a2⟩ := h i hi
  refine ⟨?_, fun j hj => ?_⟩
  · unfold iRow
    rw [e3, e4, m1, m2]
    exact a1
  · rw [e1 (itV i) (by unfold itV; omega) (by unfold itV; omega), m3]
    exact a2 j hj
theorem iTape_fr {σx σm τx τm : Sto} (h : iTape σx σm) (e1 : τx 5 1 = σx 5 1) (e2 : τx 5 2 = σx 5 2) (e6 : τx 6 = σx 6) (m12 : τm 0 12 = σm 0 12) (m13 : τm 0 13 = σm 0 13) (m10 : τm 10 = σm 10) : iTape τx τm := by
  unfold iTape
  rw [e1, e2, e6, m12, m13, m10]
  exact h
theorem iTrace_fr {σx σm τx τm : Sto} (h : iTrace σx σm) (e1 : τx 26 = σx 26) (e2 : τx 27 = σx 27) (m15 : τm 0 15 = σm 0 15) (m11 : τm 11 = σm 11) : iTrace τx τm := by
  unfold iTrace
  rw [e1, e2, m15, m11]
  exact h
theorem iScr_fr {σx τx : Sto} (h : iScr σx) (e : ∀ k, k = 11 ∨ k = 15 ∨ k = 22 ∨ k = 20 ∨ k = 25 → τx k = σx k) (e21 : τx 21 4 = σx 21 4) : iScr τx := by
  unfold iScr
  rw [e 11 (by omega), e 15 (by omega), e 22 (by omega), e 20 (by omega), e 25 (by omega), e21]
  exact h
/-- ids of the program's store that are scratch -/
def scX (k : Nat) : Prop := k = 10 ∨ k = 12 ∨ k = 13 ∨ k = 14 ∨ (16 ≤ k ∧ k ≤ 19) ∨ k = 23 ∨ k = 24 ∨ 260 ≤ k
theorem inv_fr {σx σm τx τm : Sto} (h : Inv σx σm) (ex : ∀ k, k ≠ 21 → ¬ scX k → τx k = σx k) (e21 : τx 21 4 = σx 21 4) (em : ∀ k, k ≠ 0 → k ≠ 5 → k ≠ 6 → k < 12 → τm k = σm k) (e0 : ∀ j, j < 16 → τm 0 j = σm 0 j) : Inv τx τm := by
  obtain ⟨⟨u, h1⟩, ⟨n, o, P, h2⟩, h3, h4, h5, h6, h7, h8⟩ := h
  have ex' : ∀ k, k ≠ 21 ∧ k ≠ 10 ∧ k ≠ 12 ∧ k ≠ 13 ∧ k ≠ 14 ∧ ¬ (16 ≤ k ∧ k ≤ 19) ∧ k ≠ 23 ∧ k ≠ 24 ∧ k < 260 → τx k = σx k := fun k hk => ex k hk.1 (fun q => by unfold scX at q; omega)
  refine ⟨⟨u, iNow_fr h1 (fun k _ _ => ex' k (by omega)) (em 4 (by decide) (by decide) (by decide) (by decide))⟩, ⟨n, o, P, iPast_fr h2 (fun k _ _ => ex' k (by omega)) (ex' 7 (by omega)) (em 7 (by decide) (by decide) (by decide) (by decide)) (e0 8 (by decide))⟩, iImg_fr h3 (fun k _ _ => ex' k (by omega)) (em 8 (by decide) (by decide) (by decide) (by decide)) (em 9 (by decide) (by decide) (by decide) (by decide)), iRows_fr h4 (ex' 3 (by omega)) (ex' 4 (by omega)) (fun k _ _ => ex' k (by omega)) (em 1 (by decide) (by decide) (by decide) (by decide)) (em 2 (by decide) (by decide) (by decide) (by decide)) (em 3 (by decide) (by decide) (by decide) (by decide)), iTape_fr h5 (by rw [ex' 5 (by omega)]) (by rw [ex' 5 (by omega)]) (ex' 6 (by omega)) (e0 12 (by decide)) (e0 13 (by decide)) (em 10 (by decide) (by decide) (by decide) (by decide)), iTrace_fr h6 (ex' 26 (by omega)) (ex' 27 (by omega)) (e0 15 (by decide)) (em 11 (by decide) (by decide) (by decide) (by decide)), ?_, iScr_fr h8 (fun k hk => ex' k (by omega)) e21⟩
  unfold iSt
  rw [ex' 0 (by omega), e0 3 (by decide)]
  exact h7
theorem inv_0 : Inv st0X st0M := by
  have x0 : ∀ k, 23 ≤ k → ∀ j, st0X k j = nI 0 := fun k hk j => by rw [st0X_hi hk]; rfl
  refine ⟨⟨fun _ => 0, ⟨fun i hi => x0 _ (by omega) i, fun r hr => absurd hr (Nat.not_lt_zero r), fun k hk => absurd hk (Nat.not_lt_zero k)⟩, fun j hj => rfl, Or.inr (fun j hj => rfl)⟩, ⟨0, 0, fun _ _ => 0, rfl, rfl, rfl, by decide, by decide, fun k hk => by omega⟩, fun i hi => Or.inl ⟨rfl, x0 _ (by unfold imV; omega) 0⟩, fun i hi => ⟨Or.inl ?_, fun j hj => ?_⟩, ⟨⟨0, by decide, rfl, rfl⟩, fun j hj => ⟨rfl, 0, by decide, rfl⟩, rfl⟩, ⟨0, by decide, x0 26 (by decide) 0, rfl, fun j hj => by omega⟩, rfl, rfl, rfl, rfl, fun j hj => rfl, fun j hj => x0 25 (by decide) j, rfl⟩
  · match i, hi with
    | 0, _ => exact ⟨rfl, rfl⟩
    | 1, _ => exact ⟨rfl, rfl⟩
    | 2, _ => exact ⟨rfl, rfl⟩
    | 3, _ => exact ⟨rfl, rfl⟩
    | 4, _ => exact ⟨rfl, rfl⟩
    | 5, _ => exact ⟨rfl, rfl⟩
    | 6, _ => exact ⟨rfl, rfl⟩
    | 7, _ => exact ⟨rfl, rfl⟩
  · rw [x0 _ (by unfold itV; omega)]
    rfl
theorem op_status {σx σm : Sto} (h : Inv σx σm) : fX9_status σx = fX10_status σm := h.2.2.2.2.2.2.1
theorem op_fault {σx σm : Sto} (h : Inv σx σm) : fX9_fault σx = fX10_fault σm := h.2.2.2.2.1.2.2
