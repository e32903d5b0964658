/-! the stepped search as a whole -/
def ct : Nat → Nat
  | 0 => 1
  | r + 1 => 7 * (1 + ct r) + 1
theorem nx_ok {w : Nat → Nat} {p ch : Nat} (h : okV w) (hv : vaN w p ch = true) : okV (nxW w p ch) ∧ nxW w p ch 1 = w 1 ∧ nxW w p ch 4 = w 4 := by
  unfold nxW
  by_cases c : ch = 0
  · rw [if_pos c]
    exact ⟨h, rfl, rfl⟩
  · rw [if_neg c]
    by_cases hp : p % 2 = 0
    · rw [if_pos hp]
      unfold vaN at hv
      rw [if_pos hp] at hv
      have hv2 : ch - 1 < w 1 := by
        rw [Bool.or_eq_true, Bool.and_eq_true, decide_eq_true_eq, beq_iff_eq] at hv
        omega
      exact ⟨ca_ok h hv2, ca_E w _ 1 (by omega) (by omega), ca_E w _ 4 (by omega) (by omega)⟩
    · rw [if_neg hp]
      exact ⟨rs_ok h, vu_ne (by decide), vu_ne (by decide)⟩
theorem inner_M {σm : Sto} {n m r p T : Nat} {w : Nat → Nat} (hn : n ≤ 4) (hp : p < n) (hT : σm 4 1 = nI T) (hw : okV w) (hw1 : w 1 = T) (hw4 : w 4 + m ≤ 2000) (rec : ∀ (w' : Nat → Nat) (σ : Sto) (f : Nat), ct r ≤ f → okV w' → w' 1 = T → w' 4 + m ≤ 2000 → GS σm σ (p + 1) w' → σ 13 (p + 1) = 0 → σ 14 (p + 1) = inI (p + 1) → ∃ f' σ', f ≤ f' + ct r ∧ fX10_byTurns_L95 f σ (nI n) (nI m) (nI (p + 1)) = fX10_byTurns_j147 (fX10_byTurns_L95 f') σ' (nI n) (nI m) (nI (p + 1)) (nI (gvN m r (p + 1) w')) ∧ GS σm σ' (p + 1) w' ∧ FR σ σ' (p + 1)) : ∀ (q ch f : Nat) (σ : Sto), ch + q = 7 → q * (1 + ct r) + 1 ≤ f → GS σm σ p w → σ 13 p = nI ch → σ 14 p = bsI m r p w ch → ∃ f' σ', f ≤ f' + (q * (1 + ct r) + 1) ∧ fX10_byTurns_L95 f σ (nI n) (nI m) (nI p) = fX10_byTurns_j147 (fX10_byTurns_L95 f') σ' (nI n) (nI m) (nI p) (nI (gvN m (r + 1) p w)) ∧ GS σm σ' p w ∧ FR σ σ' p := by
  intro q
  induction q with
  | zero =>
    intro ch f σ hc hf hG h13 h14
    obtain ⟨f, rfl⟩ : ∃ z, f = z + 1 := ⟨f - 1, by omega⟩
    have e : ch = 7 := by omega
    subst e
    refine ⟨f, σ, by omega, ?_, hG, ⟨fun _ _ => ⟨rfl, rfl⟩, fun _ _ => rfl⟩⟩
    rw [fX10_byTurns_L95, if_neg (nI_pos (by omega)), if_neg (fun z => by have := (nI_eq (by omega) (by omega)).mp z; omega)]
    unfold fX10_byTurns_j109 fX10_byTurns_j127
    rw [if_pos rfl, vin_t (by omega) (by decide), gd_t, nI_clamp (by omega), h13, if_neg (show ¬ nI 7 ≤ (6 : Int32) by decide), if_pos rfl, gd_t, h14, bs_7 hw.2.2.2.1]
  | succ q ih =>
    intro ch f σ hc hf hG h13 h14
    obtain ⟨f, rfl⟩ : ∃ z, f = z + 1 := ⟨f - 1, by omega⟩
    have hq : (q + 1) * (1 + ct r) = q * (1 + ct r) + (1 + ct r) := by rw [Nat.add_mul, Nat.one_mul]
    have hG1 : GS σm (up σ 13 p (nI (ch + 1))) p w := ⟨fun k h6 h12 h13 h14 => by rw [up_k h13, hG.1 k h6 h12 h13 h14], fun j hj => by rw [up_k (by decide)]; exact hG.2.1 j hj, fun j h1 h2 => by rw [up_j (by omega), up_k (by decide)]; exact hG.2.2 j h1 h2⟩
    obtain ⟨σ1, c1, c2, c3, c4⟩ := choose_M (ch := ch) hG1 hw (by omega) (by omega) (by rw [hw1]; exact hT)
    have hL : fX10_byTurns_L95 (f + 1) σ (nI n) (nI m) (nI p) = (if nI (b1 (vaN w p ch)) = (0 : Int32) then fX10_byTurns_L95 f σ1 (nI n) (nI m) (nI p) else fX10_byTurns_L95 f σ1 (nI n) (nI m) (nI (p + 1))) := by
      rw [fX10_byTurns_L95, if_neg (nI_pos (by omega)), if_neg (fun z => by have := (nI_eq (by omega) (by omega)).mp z; omega)]
      unfold fX10_byTurns_j109
      rw [if_pos rfl, vin_t (by omega) (by decide), gd_t, nI_clamp (by omega), h13, n32_6, if_pos (nI_le (by omega) (by decide)), un_e, n32_1, nI_add, un_e, c1, bd_s]
      dsimp only
      rw [un_e, un_e, Int32.add_zero, nI_add]
    have g13 : ∀ j, σ1 13 j = up σ 13 p (nI (ch + 1)) 13 j := fun j => by rw [c2 13 (by decide) (by decide)]
    have g14 : ∀ j, σ1 14 j = σ 14 j := fun j => by rw [c2 14 (by decide) (by decide), up_k (by decide)]
    have ebs : bsI m r p w (ch + 1) = if vaN w p ch then upI p (bsI m r p w ch) (nI (gvN m r (p + 1) (nxW w p ch))) else bsI m r p w ch := rfl
    rw [hL]
    cases hv : vaN w p ch with
    | false =>
      rw [hv, if_neg (by decide)] at ebs
      have hG2 : GS σm σ1 p w := ⟨fun k h6 h12 h13 h14 => by rw [c2 k h6 h12, up_k h13, hG.1 k h6 h12 h13 h14], fun j hj => by rw [c3 _ (by omega), up_k (by decide)]; exact hG.2.1 j hj, fun j h1 h2 => by rw [g13, g14, up_j (by omega)]; exact hG.2.2 j h1 h2⟩
      obtain ⟨f', σ', r1, r2, r3, r4⟩ := ih (ch + 1) f σ1 (by omega) (by omega) hG2 (by rw [g13, up_i]) (by rw [g14, h14, ebs])
      refine ⟨f', σ', by omega, ?_, r3, FR_tr ⟨fun j hj => ⟨by rw [g13, up_j (by omega)], g14 j⟩, fun i hi => by rw [c3 i hi, up_k (by decide)]⟩ r4⟩
      rw [if_pos (show nI (b1 false) = (0 : Int32) by decide)]
      exact r2
    | true =>
      rw [hv, if_pos rfl] at ebs
      obtain ⟨x1, x2, x3⟩ := nx_ok hw hv
      have hG2 : GS σm σ1 (p + 1) (nxW w p ch) := ⟨fun k h6 h12 h13 h14 => by rw [c2 k h6 h12, up_k h13, hG.1 k h6 h12 h13 h14], c4 hv, fun j h1 h2 => by rw [g13, g14, up_j (by omega)]; exact hG.2.2 j (by omega) h2⟩
      have hp1 := hG.2.2 (p + 1) (by omega) (by omega)
      obtain ⟨f1, σ2, s1, s2, s3, s4⟩ := rec (nxW w p ch) σ1 f (by omega) x1 (by rw [x2, hw1]) (by rw [x3]; exact hw4) hG2 (by rw [g13, up_j (by omega)]; exact hp1.1) (by rw [g14]; exact hp1.2)
      have p13 : σ2 13 p = nI (ch + 1) := by rw [(s4.1 p (by omega)).1, g13, up_i]
      have p14 : σ2 14 p = bsI m r p w ch := by rw [(s4.1 p (by omega)).2, g14, h14]
      have hG3 : GS σm (up (up (up σ2 13 (p + 1) 0) 14 (p + 1) (inI (p + 1))) 14 p (upI p (σ2 14 p) (nI (gvN m r (p + 1) (nxW w p ch))))) p w := by
        refine ⟨fun k h6 h12 h13 h14 => by rw [up_k h14, up_k h14, up_k h13, s3.1 k h6 h12 h13 h14], fun j hj => ?_, fun j h1 h2 => ?_⟩
        · rw [up_k (by decide), up_k (by decide), up_k (by decide), s4.2 _ (by omega), c3 _ (by omega), up_k (by decide)]
          exact hG.2.1 j hj
        · rw [up_k (by decide), up_k (by decide), up_j (show j ≠ p by omega)]
          by_cases e : j = p + 1
          · subst e
            rw [up_i, up_i]
            exact ⟨rfl, rfl⟩
          · rw [up_j e, up_j e, up_k (by decide)]
            exact s3.2.2 j (by omega) h2
      obtain ⟨f', σ', r1, r2, r3, r4⟩ := ih (ch + 1) f1 _ (by omega) (by omega) hG3 (by rw [up_k (by decide), up_k (by decide), up_j (by omega)]; exact p13) (by rw [up_i, p14, ebs])
      refine ⟨f', σ', by omega, ?_, r3, FR_tr ⟨fun j hj => ?_, fun i hi => ?_⟩ r4⟩
      · rw [if_neg (show ¬ nI (b1 true) = (0 : Int32) by decide), s2, ret_M (by omega)]
        exact r2
      · rw [up_k (by decide), up_k (by decide), up_j (by omega), up_j (by omega), up_j (by omega), up_k (by decide), (s4.1 j (by omega)).1, (s4.1 j (by omega)).2, g13, g14, up_j (by omega)]
        exact ⟨rfl, rfl⟩
      · rw [up_k (by decide), up_k (by decide), up_k (by decide), s4.2 i (by omega), c3 i hi, up_k (by decide)]
theorem run_M {σm : Sto} {n m T : Nat} (hn : n ≤ 4) (hT : σm 4 1 = nI T) : ∀ (r p : Nat) (w : Nat → Nat) (σ : Sto) (f : Nat), p + r = n → ct r ≤ f → okV w → w 1 = T → w 4 + m ≤ 2000 → GS σm σ p w → σ 13 p = 0 → σ 14 p = inI p → ∃ f' σ', f ≤ f' + ct r ∧ fX10_byTurns_L95 f σ (nI n) (nI m) (nI p) = fX10_byTurns_j147 (fX10_byTurns_L95 f') σ' (nI n) (nI m) (nI p) (nI (gvN m r p w)) ∧ GS σm σ' p w ∧ FR σ σ' p := by
  intro r
  induction r with
  | zero =>
    intro p w σ f hp hf hw h1 h4 hG h13 h14
    have hf : 1 ≤ f := hf
    obtain ⟨f, rfl⟩ : ∃ z, f = z + 1 := ⟨f - 1, by omega⟩
    have e : p = n := by omega
    subst e
    have okm := (ok_dys hw h4).1
    have c1 := copies_M (σ := σ) (a0 := 12) (x1 := 59 * p) (a2 := 6) (x3 := 0) (u := w) hG.2.1 (Or.inl (by decide)) (show 59 * p + 59 ≤ 295 by omega) (by decide) (by decide) (by decide)
    rw [SO_SM] at c1
    refine ⟨f, SM σ 6 (dysN m w), Nat.le_refl _, ?_, ⟨fun k h6 h12 h13 h14 => by rw [SM_ne h6, hG.1 k h6 h12 h13 h14], fun j hj => by rw [SM_ne (by decide)]; exact hG.2.1 j hj, fun j h1 h2 => by rw [SM_ne (by decide), SM_ne (by decide)]; exact hG.2.2 j h1 h2⟩, ⟨fun j _ => by rw [SM_ne (by decide), SM_ne (by decide)]; exact ⟨rfl, rfl⟩, fun i _ => by rw [SM_ne (by decide)]⟩⟩
    rw [fX10_byTurns_L95, if_neg (nI_pos (by omega)), if_pos rfl]
    unfold fX10_byTurns_j109 fX10_byTurns_j127 fX10_endsIn
    rw [if_neg one_n0, if_neg one_n0, n32_59, pk_mul, n32_0, c1, bd_s, goes_by hw h4, bd_s, stones_M SM6 okm, bd_s, bd_s, dys_lo (j := 1) (by decide) (by decide)]
    rfl
  | succ r ih =>
    intro p w σ f hp hf hw h1 h4 hG h13 h14
    exact inner_M hn (by omega) hT hw h1 h4 (fun w' σ f a b c d e g i => ih (p + 1) w' σ f (by omega) a b c d e g i) 7 0 f σ (by decide) hf hG h13 h14
theorem init_L {σ0 : Sto} {x1 x2 x3 : Int32} (kk : Sto → Int32 → Int32 → Int32 → Option (Sto × Int32)) : ∀ (q i f : Nat) (σ : Sto), i + q = 5 → q < f → (∀ k, k ≠ 13 → k ≠ 14 → σ k = σ0 k) → (∀ j, j < i → σ 13 j = 0 ∧ σ 14 j = inI j) → ∃ σ', fX10_byTurns_L55 kk f σ x1 x2 x3 (nI i) = kk σ' x1 x2 x3 ∧ (∀ k, k ≠ 13 → k ≠ 14 → σ' k = σ0 k) ∧ (∀ j, j < 5 → σ' 13 j = 0 ∧ σ' 14 j = inI j) := by
  intro q
  induction q with
  | zero =>
    intro i f σ hi hf h1 h2
    obtain ⟨f, rfl⟩ : ∃ z, f = z + 1 := ⟨f - 1, by omega⟩
    exact ⟨σ, by rw [fX10_byTurns_L55, n32_5, if_pos (nI_le (by omega) (by omega))], h1, fun j hj => h2 j (by omega)⟩
  | succ q ih =>
    intro i f σ hi hf h1 h2
    obtain ⟨f, rfl⟩ : ∃ z, f = z + 1 := ⟨f - 1, by omega⟩
    obtain ⟨σ', r1, r2, r3⟩ := ih (i + 1) f (up (up σ 13 i 0) 14 i (inI i)) (by omega) (by omega) (fun k h13 h14 => by rw [up_k h14, up_k h13, h1 k h13 h14]) (fun j hj => by
      by_cases e : j = i
      · subst e
        rw [up_k (by decide), up_i, up_i]
        exact ⟨rfl, rfl⟩
      · rw [up_k (show (13 : Nat) ≠ 14 by decide), up_j e, up_j e, up_k (by decide)]
        exact h2 j (by omega))
    refine ⟨σ', ?_, r2, r3⟩
    rw [fX10_byTurns_L55, n32_5, if_neg (nI_ge (by omega) (by omega)), vin_t (by omega) (by decide), gd_t, nI_clamp (by omega), irm2 (by omega)]
    simp only [un]
    rw [← r1, show nI i + (1 : Int32) = nI (i + 1) from nI_add i 1]
    unfold inI
    by_cases c : i % 2 = 0
    · rw [c, if_pos (show nI 0 = (0 : Int32) from rfl), if_pos rfl]
    · rw [show i % 2 = 1 by omega, if_neg (show ¬ nI 1 = (0 : Int32) by decide), if_neg (by decide)]
theorem turns_M {σm : Sto} {u : Nat → Nat} {n m : Nat} (hu : ∀ j, j < 59 → σm 4 j = nI (u j)) (h : okV u) (hn : n ≤ 4) (hm : u 4 + m ≤ 2000) : ∃ ρ, (bd (fX10_copies σm 4 (0 : Int32) 12 (0 : Int32)) fun q_4 => fX10_byTurns_L55 (fX10_byTurns_L95 fu) fu q_4 (nI n) (nI m) (0 : Int32) (0 : Int32)) = some (ρ, nI (gvN m n 0 u)) ∧ ∀ k, k ≠ 6 → k ≠ 12 → k ≠ 13 → k ≠ 14 → ρ k = σm k := by
  have c1 := copies_M (σ := σm) (a0 := 4) (x1 := 0) (a2 := 12) (x3 := 0) (u := u) (fun j hj => by rw [Nat.zero_add]; exact hu j hj) (Or.inl (by decide)) (by decide) (by decide) (by decide) (by decide)
  obtain ⟨σ1, s1, s2, s3⟩ := init_L (σ0 := SO σm 12 0 u 59) (x1 := nI n) (x2 := nI m) (x3 := nI 0) (fX10_byTurns_L95 fu) 5 0 fu (SO σm 12 0 u 59) (by decide) (fu_gt (by decide)) (fun _ _ _ => rfl) (fun j hj => by omega)
  have hG : GS σm σ1 0 u := ⟨fun k h6 h12 h13 h14 => by rw [s2 k h13 h14, SO_ne h12], fun j hj => by
    rw [s2 12 (by decide) (by decide)]
    exact SO_at hj, fun j _ h2 => s3 j h2⟩
  have hct : ct n ≤ 5601 := by
    rcases (show n = 0 ∨ n = 1 ∨ n = 2 ∨ n = 3 ∨ n = 4 by omega) with rfl | rfl | rfl | rfl | rfl <;> decide
  obtain ⟨f', σ', r1, r2, r3, r4⟩ := run_M (n := n) (m := m) hn (hu 1 (by decide)) n 0 u σ1 fu (by omega) (Nat.le_trans hct (Nat.le_of_lt (fu_gt (by decide)))) h rfl hm hG (s3 0 (by decide)).1 (s3 0 (by decide)).2
  refine ⟨σ', ?_, r3.1⟩
  rw [n32_0, c1, bd_s]
  refine Eq.trans s1 (Eq.trans r2 ?_)
  unfold fX10_byTurns_j147
  rw [if_pos (show nI 0 = (0 : Int32) from rfl)]
