/-! street -/
theorem inv_st {σx σm τx τm : Sto} (h : Inv σx σm) (ex : ∀ k, k ≠ 5 → (k < 44 ∨ 52 ≤ k) → τx k = σx k) (em : ∀ k, k ≠ 0 → k ≠ 5 → τm k = σm k) (e0 : ∀ j, j < 16 → j ≠ 12 → j ≠ 13 → τm 0 j = σm 0 j) (ht : iTape τx τm) : Inv τx τm := by
  obtain ⟨⟨u, h1⟩, ⟨n, o, P, h2⟩, h3, h4, h5, h6, h7, h8⟩ := h
  refine ⟨⟨u, iNow_fr h1 (fun k _ _ => ex k (by omega) (by omega)) (em 4 (by decide) (by decide))⟩, ⟨n, o, P, iPast_fr h2 (fun k _ _ => ex k (by omega) (by omega)) (ex 7 (by decide) (by decide)) (em 7 (by decide) (by decide)) (e0 8 (by decide) (by decide) (by decide))⟩, iImg_fr h3 (fun k _ _ => ex k (by omega) (by omega)) (em 8 (by decide) (by decide)) (em 9 (by decide) (by decide)), iRows_fr h4 (ex 3 (by decide) (by decide)) (ex 4 (by decide) (by decide)) (fun k _ _ => ex k (by omega) (by omega)) (em 1 (by decide) (by decide)) (em 2 (by decide) (by decide)) (em 3 (by decide) (by decide)), ht, iTrace_fr h6 (ex 26 (by decide) (by decide)) (ex 27 (by decide) (by decide)) (e0 15 (by decide) (by decide) (by decide)) (em 11 (by decide) (by decide)), ?_, iScr_fr h8 (fun k hk => ex k (by omega) (by omega)) (by rw [ex 21 (by decide) (by decide)])⟩
  unfold iSt
  rw [ex 0 (by decide) (by decide), e0 3 (by decide) (by decide) (by decide)]
  exact h7
theorem zero_L {σ0 : Sto} (kk : Sto → Option (Sto × Int32)) : ∀ (q i f : Nat) (σ : Sto), i + q = 59 → q < f → (∀ k, k ≠ 5 → σ k = σ0 k) → (∀ j, j < i → σ 5 j = 0) → ∃ σ', fX10_reads_L2 kk f σ (nI i) = kk σ' ∧ (∀ k, k ≠ 5 → σ' k = σ0 k) ∧ ∀ j, j < 59 → σ' 5 j = 0 := by
  intro q
  induction q with
  | zero =>
    intro i f σ hi hf h1 h2
    obtain ⟨f, rfl⟩ : ∃ z, f = z + 1 := ⟨f - 1, by omega⟩
    exact ⟨σ, by rw [fX10_reads_L2, n32_59, if_pos (nI_le (by omega) (by omega))], h1, fun j hj => h2 j (by omega)⟩
  | succ q ih =>
    intro i f σ hi hf h1 h2
    obtain ⟨f, rfl⟩ : ∃ z, f = z + 1 := ⟨f - 1, by omega⟩
    obtain ⟨σ', r1, r2, r3⟩ := ih (i + 1) f (up σ 5 i 0) (by omega) (by omega) (fun k hk => by rw [up_k hk, h1 k hk]) (fun j hj => by
      by_cases e : j = i
      · subst e
        rw [up_i]
      · rw [up_j e]
        exact h2 j (by omega))
    refine ⟨σ', ?_, r2, r3⟩
    rw [fX10_reads_L2, n32_59, if_neg (nI_ge (by omega) (by omega)), vin_t (by omega) (by decide), gd_t, nI_clamp (by omega), un_e, un_e, n32_1, nI_add]
    exact r1
theorem read_J {σx σm : Sto} {s : Nat} {L : Nat → Nat} (hT : TP σx σm s L) (h1 : σx 5 1 = nI s) : (∃ τ ρ c p, fX6_read σx = some (up τ 5 1 0, 0) ∧ fX10_reads σm = some (ρ, 0) ∧ XF τ σx c p ∧ MF ρ σm c p) ∨ (∃ τ ρ w, fX6_read σx = some (up τ 5 1 0, 1) ∧ fX10_reads σm = some (ρ, 1) ∧ XP τ σx s s w ∧ MO ρ σm w ∧ okD w) := by
  have hcl : ∃ τ0, fX8_clear (up σx 5 5 0) 44 = τ0 ∧ XP τ0 σx s 0 (fun _ => 0) := by
    refine ⟨_, rfl, ?_⟩
    unfold fX8_clear
    rw [un_e, un_e, un_e, un_e, un_e]
    refine ⟨fun k k5 hk => by rw [up_k (by omega), up_k (by omega), up_k (by omega), up_k (by omega), up_k (by omega), up_k k5], by rw [up_k (by decide), up_k (by decide), up_k (by decide), up_k (by decide), up_k (by decide), up_j (by decide)]; exact h1, by rw [up_k (by decide), up_k (by decide), up_k (by decide), up_k (by decide), up_k (by decide), up_j (by decide)], by rw [up_k (by decide), up_k (by decide), up_k (by decide), up_k (by decide), up_k (by decide), up_i]; rfl, fun i hi => ?_, fun r hr => absurd hr (Nat.not_lt_zero r), fun k hk => absurd hk (Nat.not_lt_zero k)⟩
    match i, hi with
    | 0, _ => rw [up_j (by decide), up_j (by decide), up_j (by decide), up_j (by decide), up_i]; rfl
    | 1, _ => rw [up_j (by decide), up_j (by decide), up_j (by decide), up_i]; rfl
    | 2, _ => rw [up_j (by decide), up_j (by decide), up_i]; rfl
    | 3, _ => rw [up_j (by decide), up_i]; rfl
    | 4, _ => rw [up_i]; rfl
  obtain ⟨τ0, c1, c2⟩ := hcl
  obtain ⟨σ1, z1, z2, z3⟩ := zero_L (σ0 := σm) (fun σ_1 => un (up σ_1 0 16 (0 : Int32)) fun σ_2 => lawM fu σ_2) 59 0 fu σm (by decide) (fu_gt (by decide)) (fun _ _ => rfl) (fun j hj => by omega)
  have z1 : fX10_reads σm = (un (up σ1 0 16 (0 : Int32)) fun σ_2 => lawM fu σ_2) := z1
  rw [un_e] at z1
  have hM : MP (up σ1 0 16 (0 : Int32)) σm 0 (fun _ => 0) := ⟨fun k k0 k5 => by rw [up_k k0, z2 k k5], fun j hj => by rw [up_j (by omega), z2 0 (by decide)], up_i, fun j hj => by rw [up_k (by decide), z3 j hj]; rfl⟩
  have hw : DW (fun _ => 0) := ⟨Nat.zero_le _, Nat.zero_le _, Nat.zero_le _, Nat.zero_le _, rfl, fun _ _ => Nat.zero_le _, fun _ _ _ => rfl, fun _ _ => rfl, fun k hk => absurd hk (Nat.not_lt_zero k)⟩
  unfold fX6_read
  rw [un_e, un_e, c1, z1]
  rcases law_J (f := fu) hT c2 hM hw rfl rfl with ⟨τ1, ρ, c, p, l1, l2, l3, l4⟩ | ⟨τ1, σ2, w1, a1, l1, l2, l3, l4, l5, l6, l7, l8⟩
  · rw [l1, l2, bd_s]
    dsimp only
    rw [if_pos rfl, un_e]
    exact Or.inl ⟨τ1, ρ, c, p, rfl, rfl, l3, l4⟩
  · rw [l1, l2, bd_s]
    dsimp only
    rw [if_neg one_n0]
    have hrm := room_J hT 10 τ1 σ2 w1 a1 fu fu (by omega) (fu_gt (by decide)) (fu_gt (by decide)) l3 l4 l5 l7 l8
    rw [l6] at hrm
    have hrr : ∀ τ : Sto, fX6_readRooms τ = fX6_readRooms_L2 fX6_readRooms_j32 fu τ (nI 0) := fun τ => by
      unfold fX6_readRooms
      rw [n32_0]
    have hrt : ∀ τ : Sto, fX6_readThings τ = fX6_readThings_L2 fX6_readThings_j38 fu τ (nI 0) := fun τ => by
      unfold fX6_readThings
      rw [n32_0]
    rw [hrr]
    rcases hrm with ⟨τ2, ρ, c, p, r1, r2, r3, r4⟩ | ⟨τ2, σ3, w2, a2, fM, r1, r2, r3, r4, r5, r6, r7, r8, r9, r10⟩
    · rw [r1, r2, bd_s]
      dsimp only
      rw [if_pos rfl, un_e]
      exact Or.inl ⟨τ2, ρ, c, p, rfl, rfl, r3, r4⟩
    · rw [r1, r2, bd_s]
      dsimp only
      rw [if_neg one_n0, hrt]
      have hth := thing_J hT 6 τ2 σ3 w2 a2 fu fM (by omega) (fu_gt (by decide)) (by omega) r3 r4 r5 r7 r8 (fun _ => r10)
      rw [r6] at hth
      rcases hth with ⟨τ3, ρ, c, p, t1, t2, t3, t4⟩ | ⟨τ3, ρ, w3, t1, t2, t3, t4, t5, t6, t7⟩
      · rw [t1, t2, bd_s]
        dsimp only
        rw [if_pos rfl, un_e]
        exact Or.inl ⟨τ3, ρ, c, p, rfl, rfl, t3, t4⟩
      · rw [t1, t2, bd_s]
        dsimp only
        rw [if_neg one_n0, un_e]
        exact Or.inr ⟨τ3, ρ, w3, rfl, rfl, t3, t4, DW_ok t5 t6 t7⟩
theorem op_street {σx σm : Sto} (h : Inv σx σm) : ∃ qx qm, fX9_street σx = some qx ∧ fX10_street σm = some qm ∧ qx.2 = qm.2 ∧ Inv qx.1 qm.1 := by
  obtain ⟨⟨s, hs, s1, s2⟩, tt, tf⟩ := id h.2.2.2.2.1
  have hT : TP σx σm s (fun j => (σm 10 j).toNatClampNeg) := ⟨hs, fun j hj => by
    obtain ⟨e1, b, hb, e2⟩ := tt j hj
    dsimp only
    rw [e1, e2, nI_clamp (by omega)]
    exact ⟨hb, rfl, rfl⟩, s2⟩
  unfold fX9_street fX10_street
  rcases read_J hT s1 with ⟨τ, ρ, c, p, r1, r2, r3, r4⟩ | ⟨τ, ρ, w, r1, r2, r3, r4, r5⟩
  · rw [r1, r2, bd_s, bd_s]
    dsimp only
    rw [if_pos rfl, un_e, if_pos rfl, un_e]
    have e20 : up ρ 0 12 (0 : Int32) 0 20 = nI c := by rw [up_j (by decide)]; exact r4.2.2.1
    have e17 : up (up ρ 0 12 (0 : Int32)) 0 13 (nI c) 0 17 = nI p := by rw [up_j (by decide), up_j (by decide)]; exact r4.2.2.2
    have e53 : up τ 5 1 (0 : Int32) 5 3 = nI p := by rw [up_j (by decide)]; exact r3.2.2
    rw [e20, e17, e53]
    refine mk2 rfl rfl rfl (inv_st h (fun k k5 hk => by rw [up_k k5, r3.1 k k5 hk]) (fun k k0 k5 => by rw [up_k k0, up_k k0, r4.1 k k0 k5]) (fun j hj h12 h13 => by rw [up_j h13, up_j h12, r4.2.1 j hj]) ⟨⟨0, by decide, by rw [up_i]; rfl, by rw [up_j (by decide), up_i]; rfl⟩, fun j hj => ?_, ?_⟩)
    · rw [up_k (by decide), r3.1 6 (by decide) (by decide), up_k (by decide), up_k (by decide), r4.1 10 (by decide) (by decide)]
      exact tt j hj
    · rw [up_j (by decide), r3.2.1, up_i]
  · rw [r1, r2, bd_s, bd_s]
    dsimp only
    rw [if_neg one_n0, un_e (up ρ 0 12 (0 : Int32)), if_neg one_n0]
    have hV : VX (up τ 5 1 (0 : Int32)) 44 w := VX_fr r3.2.2.2.2 (fun k _ _ => up_k (by omega))
    have h5 : ∀ j, j < 59 → up ρ 0 12 (0 : Int32) 5 (0 + j) = nI (w j) := fun j hj => by rw [Nat.zero_add, up_k (by decide)]; exact r4.2.2 j hj
    have hinv : Inv (up τ 5 1 (0 : Int32)) (up ρ 0 12 (0 : Int32)) := inv_st h (fun k k5 hk => by rw [up_k k5, r3.1 k k5 hk]) (fun k k0 k5 => by rw [up_k k0, r4.1 k k0 k5]) (fun j hj h12 h13 => by rw [up_j h12, r4.2.1 j hj]) ⟨⟨0, by decide, by rw [up_i]; rfl, by rw [up_i]; rfl⟩, fun j hj => by
      rw [up_k (by decide), r3.1 6 (by decide) (by decide), up_k (by decide), r4.1 10 (by decide) (by decide)]
      exact tt j hj, by rw [up_j (by decide), up_j (by decide), r3.2.2.1, r4.2.1 13 (by decide)]; exact tf⟩
    generalize up τ 5 1 (0 : Int32) = τ1 at hV hinv
    generalize up ρ 0 12 (0 : Int32) = ρ1 at h5 hinv
    obtain ⟨b1', b2⟩ := become_X (σ := τ1) (v0 := 36) (v1 := 44) (Or.inl (by decide)) hV r5.1.2.1 r5.1.2.2.2.1
    unfold fX3_forget
    rw [n32_0, un_e, un_e, un_e, un_e, copies_M (u := w) h5 (Or.inl (by decide)) (by decide) (by decide) (by decide) (by decide), bd_s, SO_SM, un_e]
    have hV2 : VX (up (up (fX8_become τ1 36 44) 7 0 (nI 0)) 7 1 (nI 0)) 36 w := VX_fr b1' (fun k _ _ => by rw [up_k (by omega), up_k (by omega)])
    have e1 : up (up (fX8_become τ1 36 44) 7 0 (nI 0)) 7 1 (nI 0) 36 1 = nI (w 1) := hV2.1 1 (by decide)
    have e2 : up (SM ρ1 4 w) 0 8 (nI 0) 4 1 = nI (w 1) := by rw [up_k (by decide), SM_at (by decide)]
    refine mk2 rfl rfl (e1.trans e2.symm) (inv_np hinv (fun k hk h7 => ?_) (fun k h0 h4 h7 => ?_) (fun j hj => ?_) ⟨w, hV2, fun j hj => ?_, Or.inl r5⟩ ⟨0, 0, fun _ _ => 0, ?_, ?_, ?_, by decide, by decide, fun k hk => absurd hk (Nat.not_lt_zero k)⟩)
    · rw [up_k h7, up_k h7, b2 k (by omega)]
    · rw [up_k h0, SM_ne h4]
    · rw [up_j hj, SM_ne (by decide)]
    · rw [up_k (by decide), SM_at hj]
    · rw [up_j (by decide), up_i]
    · rw [up_i]
    · rw [up_i]
