/-! a village of the program stands for a street of natural numbers -/
def VX (σ : Sto) (v : Nat) (u : Nat → Nat) : Prop := (∀ i, i < 5 → σ v i = nI (u i)) ∧ (∀ r, r < u 0 → σ (v + 1) r = nI (u (5 + r)) ∧ σ (v + 2) r = nI (u (15 + r)) ∧ σ (v + 3) r = nI (u (25 + r))) ∧ (∀ k, k < u 1 → σ (v + 4) k = nI (u (35 + k)) ∧ σ (v + 5) k = nI (u (41 + k)) ∧ σ (v + 6) k = nI (whN u k) ∧ σ (v + 7) k = nI (u (47 + k)))
theorem VX_fr {σ σ' : Sto} {v : Nat} {u : Nat → Nat} (h : VX σ v u) (e : ∀ k, v ≤ k → k < v + 8 → σ' k = σ k) : VX σ' v u := by
  obtain ⟨h1, h2, h3⟩ := h
  refine ⟨fun i hi => ?_, fun r hr => ?_, fun k hk => ?_⟩
  · rw [e v (by omega) (by omega), h1 i hi]
  · rw [e (v + 1) (by omega) (by omega), e (v + 2) (by omega) (by omega), e (v + 3) (by omega) (by omega)]
    exact h2 r hr
  · rw [e (v + 4) (by omega) (by omega), e (v + 5) (by omega) (by omega), e (v + 6) (by omega) (by omega), e (v + 7) (by omega) (by omega)]
    exact h3 k hk
theorem aL_v2 {v : Nat} (h : isV v) : aLX (v + 2) = 10 := by
  unfold aLX
  have := sv_2 h
  show (match wkX.1 (v + 2) with | .inl q => q.2 | _ => 0) = 10
  rw [this]
/-- what a day does to where and last -/
theorem ro_wh {u : Nat → Nat} {k : Nat} (h : okV u) (hk : k < u 1) : (whN (dayN u) k = 20 → roN u k = u (47 + k)) ∧ (whN (dayN u) k ≠ 20 → 20 ≤ whN (dayN u) k → whN (dayN u) k = 30 + roN u k) ∧ (whN (dayN u) k < 20 → whN (dayN u) k = roN u k) ∧ whN (dayN u) k < 50 := by
  have h1 := h.2.2.2.1
  have h0 := h.2.1
  obtain ⟨a1, a2, a3, a4, a5, a6⟩ := h.2.2.2.2.2.2.2.2.2.2.2 k hk
  have hk6 : k < 6 := by omega
  have hro : roN u k < 10 := by
    unfold roN
    split
    · split <;> omega
    · omega
  unfold whN
  rw [day_is hk6, day_ro hk6]
  by_cases e1 : isN u k = 1
  · rw [if_pos e1]
    refine ⟨fun _ => ?_, fun q => absurd rfl q, fun q => by omega, by omega⟩
    unfold isN at e1
    unfold roN
    by_cases c : k < u 1 ∧ u (53 + k) = 0
    · rw [if_pos c] at e1 ⊢
      by_cases c2 : u 0 ≤ toN u k
      · rw [if_pos c2]
      · rw [if_neg c2] at e1
        split at e1 <;> omega
    · rw [if_neg c]
  · rw [if_neg e1]
    by_cases e2 : isN u k = 2
    · rw [if_pos e2]
      exact ⟨fun q => by omega, fun _ _ => rfl, fun q => by omega, by omega⟩
    · rw [if_neg e2]
      exact ⟨fun q => by omega, fun _ q => by omega, fun _ => rfl, by omega⟩
/-- last after a place -/
def laN (p old : Nat) : Nat := if p = 20 then old else if p < 20 then p else p - 30
theorem place_X {σ : Sto} {v k p old : Nat} (hk : k < 6) (hp : p < 50) (ho : σ (v + 7) k = nI old) : ∃ σ', fX8_place σ v (nI k) (nI p) = some σ' ∧ (∀ a, a ≠ v + 6 → a ≠ v + 7 → σ' a = σ a) ∧ σ' (v + 6) k = nI p ∧ ((p ≤ 20 ∨ 30 ≤ p) → σ' (v + 7) k = nI (laN p old)) ∧ ∀ i, i ≠ k → σ' (v + 6) i = σ (v + 6) i ∧ σ' (v + 7) i = σ (v + 7) i := by
  unfold fX8_place laN
  rw [vin_t hk (by decide), gd_t, nI_clamp (by omega), n32_20, n32_30]
  simp only [un]
  by_cases c : p = 20
  · refine ⟨_, if_pos (by rw [c]), fun a h6 h7 => up_k h6, up_i, fun _ => ?_, fun i hi => ⟨up_j hi, ?_⟩⟩
    · rw [up_k (by omega), if_pos c, ho]
    · rw [up_k (by omega)]
  · rw [if_neg (fun q => c ((nI_eq (by omega) (by decide)).mp q)), if_neg c]
    by_cases d : p < 20
    · refine ⟨_, if_neg (nI_ge d (by decide)), fun a h6 h7 => ?_, ?_, fun _ => ?_, fun i hi => ⟨?_, ?_⟩⟩
      · rw [up_k h7, up_k h6]
      · rw [up_k (by omega), up_i]
      · rw [up_i, if_pos d]
      · rw [up_k (by omega), up_j hi]
      · rw [up_j hi, up_k (by omega)]
    · refine ⟨_, if_pos (nI_le (by omega) (by omega)), fun a h6 h7 => ?_, ?_, fun q => ?_, fun i hi => ⟨?_, ?_⟩⟩
      · rw [up_k h7, up_k h6]
      · rw [up_k (by omega), up_i]
      · rw [up_i, if_neg d, pk_sub (by omega)]
      · rw [up_k (by omega), up_j hi]
      · rw [up_j hi, up_k (by omega)]
def PSt (σ0 σ : Sto) (v : Nat) (u : Nat → Nat) (k : Nat) : Prop := (∀ a, a ≠ v + 6 → a ≠ v + 7 → σ a = σ0 a) ∧ (∀ i, i < k → σ (v + 6) i = nI (whN (dayN u) i) ∧ σ (v + 7) i = nI (roN u i)) ∧ (∀ i, k ≤ i → i < u 1 → σ (v + 6) i = nI (whN u i) ∧ σ (v + 7) i = nI (u (47 + i)))
theorem la_ro {u : Nat → Nat} {k : Nat} (h : okV u) (hk : k < u 1) : laN (whN (dayN u) k) (u (47 + k)) = roN u k ∧ (whN (dayN u) k ≤ 20 ∨ 30 ≤ whN (dayN u) k) := by
  obtain ⟨r1, r2, r3, r4⟩ := ro_wh h hk
  unfold laN
  by_cases c : whN (dayN u) k = 20
  · rw [if_pos c, r1 c]
    exact ⟨rfl, by omega⟩
  · rw [if_neg c]
    by_cases d : whN (dayN u) k < 20
    · rw [if_pos d, r3 d]
      exact ⟨rfl, by have := r3 d; omega⟩
    · rw [if_neg d]
      have := r2 c (by omega)
      exact ⟨by omega, by omega⟩
theorem ok_wh {u : Nat → Nat} {k : Nat} (h : okV u) (hk : k < u 1) : whN u k < 50 ∧ (whN u k < 20 → whN u k < u 0) ∧ (whN u k ≤ 20 ∨ 30 ≤ whN u k) := by
  have h0 := h.2.1
  obtain ⟨a1, a2, a3, a4, a5, a6⟩ := h.2.2.2.2.2.2.2.2.2.2.2 k hk
  unfold whN
  split
  · omega
  · split
    · omega
    · omega
theorem pass_L {σ0 : Sto} {v : Nat} {u : Nat → Nat} (hV : isV v) (h : okV u) (hd : u 4 < 2000) (h0 : ∀ i, i < 5 → σ0 v i = nI (u i)) (h2 : ∀ r, r < u 0 → σ0 (v + 2) r = nI (lavN u r)) (h4 : ∀ k, k < u 1 → σ0 (v + 4) k = nI (u (35 + k)) ∧ σ0 (v + 5) k = nI (u (41 + k))) :
    ∀ (m k n : Nat) (σ : Sto), k + m = u 1 → m < n → PSt σ0 σ v u k → ∃ σ', fX8_pass_L15 v n σ (nI k) = some (up σ' v 4 (nI (u 4 + 1))) ∧ PSt σ0 σ' v u (u 1) := by
  have hR := h.2.1
  have h1 := h.2.2.2.1
  have hk' := h.2.2.2.2.2.2.2.2.2.2.2
  have hsl := sm_lav h
  intro m
  induction m with
  | zero =>
    intro k n σ hk hn hs
    obtain ⟨n, rfl⟩ : ∃ q, n = q + 1 := ⟨n - 1, by omega⟩
    have e1 : σ v 1 = nI (u 1) := by rw [hs.1 v (by omega) (by omega), h0 1 (by decide)]
    have e4 : σ v 4 = nI (u 4) := by rw [hs.1 v (by omega) (by omega), h0 4 (by decide)]
    refine ⟨σ, ?_, by rw [show u 1 = k by omega]; exact hs⟩
    rw [fX8_pass_L15, e1, if_pos (nI_le (by omega) (by omega)), e4]
    simp only [un]
    rw [n32_1, nI_add]
  | succ m ih =>
    intro k n σ hk hn hs
    obtain ⟨n, rfl⟩ : ∃ q, n = q + 1 := ⟨n - 1, by omega⟩
    obtain ⟨s1, s2, s3⟩ := hs
    have e0 : σ v 0 = nI (u 0) := by rw [s1 v (by omega) (by omega), h0 0 (by decide)]
    have e1 : σ v 1 = nI (u 1) := by rw [s1 v (by omega) (by omega), h0 1 (by decide)]
    have e4 : σ v 4 = nI (u 4) := by rw [s1 v (by omega) (by omega), h0 4 (by decide)]
    obtain ⟨a1, a2, a3, a4, a5, a6⟩ := hk' k (by omega)
    obtain ⟨b6, b7⟩ := s3 k (by omega) (by omega)
    obtain ⟨c1, c2, c3⟩ := ok_wh h (show k < u 1 by omega)
    have haf := after_X (σ := σ) (v := v) (a := v + 2) (o := 0) (R := u 0) (so := u (35 + k)) (hi := u (41 + k)) (d := u 4) (p := whN u k) (L := lavN u) e0 hR (fun r hr => by rw [s1 (v + 2) (by omega) (by omega), Nat.zero_add, h2 r hr]) (fun r hr => by have := sm_le (L := lavN u) hr; omega) (by rw [aL_v2 hV]; omega) (by rw [aL_v2 hV]; decide) (by omega) (by omega) (by omega) c2 (by omega)
    rw [← wh_day h (by omega)] at haf
    obtain ⟨q1, q2⟩ := la_ro h (show k < u 1 by omega)
    have q3 := (ro_wh h (show k < u 1 by omega)).2.2.2
    obtain ⟨σ1, p1, p2, p3, p4, p5⟩ := place_X (σ := σ) (v := v) (k := k) (p := whN (dayN u) k) (old := u (47 + k)) (by omega) q3 b7
    have hs' : PSt σ0 σ1 v u (k + 1) := by
      refine ⟨fun a z6 z7 => by rw [p2 a z6 z7, s1 a z6 z7], fun i hi => ?_, fun i hi hi2 => ?_⟩
      · by_cases e : i = k
        · subst e
          rw [p3, p4 q2, q1]
          exact ⟨rfl, rfl⟩
        · rw [(p5 i e).1, (p5 i e).2]
          exact s2 i (by omega)
      · rw [(p5 i (by omega)).1, (p5 i (by omega)).2]
        exact s3 i (by omega) hi2
    obtain ⟨σ', r1, r2⟩ := ih (k + 1) n σ1 (by omega) (by omega) hs'
    refine ⟨σ', ?_, r2⟩
    rw [fX8_pass_L15, e1, if_neg (nI_ge (by omega) (by omega)), vin_t (by omega) (by decide), gd_t, nI_clamp (by omega), b6, s1 (v + 4) (by omega) (by omega), s1 (v + 5) (by omega) (by omega), (h4 k (by omega)).1, (h4 k (by omega)).2, e4, n32_0, haf, bd_s, p1, bd_s]
    simp only [un]
    rw [n32_1, nI_add]
    exact r1
theorem fd_eq (u : Nat → Nat) : fdL (u 2) (u 3) (u 4) (fun r => u (15 + r)) = fdN u := by
  funext r
  unfold fdL fdN
  rfl
theorem VX_FV {σ : Sto} {v a : Nat} {u : Nat → Nat} (hx : VX σ v u) (h : okV u) (ha : v ≠ a ∧ v + 1 ≠ a ∧ v + 3 ≠ a) : FV σ v a (u 0) (fun r => u (5 + r)) (fun r => u (25 + r)) := by
  have hR := h.2.1
  exact ⟨hx.1 0 (by decide), fun r hr => (hx.2.1 r hr).1, fun r hr => (hx.2.1 r hr).2.2, ha.1, ha.2.1, ha.2.2, by have := h.1; omega, hR, fun r hr => h.2.2.2.2.2.2.2.1 r (by omega), fun r hr => h.2.2.2.2.2.2.2.2.1 r (by omega)⟩
theorem pass_X {σ : Sto} {v : Nat} {u : Nat → Nat} (hV : isV v) (hx : VX σ v u) (h : okV u) (hd : u 4 < 2000) : ∃ σ', fX8_pass σ v = some σ' ∧ VX σ' v (dayN u) ∧ ∀ k, (k < v ∨ v + 8 ≤ k) → σ' k = σ k := by
  have hR := h.2.1
  have h1 := h.2.2.2.1
  have hsl := sm_fd h
  have hst := h.2.2.2.2.2.1
  obtain ⟨x1, x2, x3⟩ := id hx
  have hfl := flow_X (σ := σ) (v := v) (a := v + 2) (o := 0) (R := u 0) (f := u 2) (st := u 3) (d := u 4) (L := fun r => u (15 + r)) (VX_FV hx h (by omega)) (x1 2 (by decide)) (x1 3 (by decide)) (by omega) (by omega) (by rw [aL_v2 hV]; omega) (by rw [aL_v2 hV]; decide) (by rw [fd_eq]; omega)
  rw [SO_id (fun r hr => by rw [Nat.zero_add]; exact (x2 r hr).2.1), fd_eq] at hfl
  have hfl : fX8_flow σ v (v + 2) (nI 0) (nI (u 4)) = some (SO σ (v + 2) 0 (lavN u) (u 0)) := hfl
  obtain ⟨σ', r1, r2, r3, r4⟩ := pass_L (σ0 := SO σ (v + 2) 0 (lavN u) (u 0)) hV h hd (fun i hi => by rw [SO_ne (by omega), x1 i hi]) (fun r hr => by have := SO_at (σ := σ) (a := v + 2) (o := 0) (u := lavN u) hr; rw [Nat.zero_add] at this; exact this) (fun k hk => by rw [SO_ne (by omega), SO_ne (by omega)]; exact ⟨(x3 k hk).1, (x3 k hk).2.1⟩) (u 1) 0 fu (SO σ (v + 2) 0 (lavN u) (u 0)) (by omega) (fu_gt (by omega)) ⟨fun _ _ _ => rfl, fun i hi => by omega, fun i _ hi => by rw [SO_ne (by omega), SO_ne (by omega)]; exact ⟨(x3 i hi).2.2.1, (x3 i hi).2.2.2⟩⟩
  refine ⟨up σ' v 4 (nI (u 4 + 1)), ?_, ?_, ?_⟩
  · unfold fX8_pass
    rw [x1 4 (by decide), n32_0, hfl, bd_s]
    exact r1
  · refine ⟨fun i hi => ?_, fun r hr => ?_, fun k hk => ?_⟩
    · by_cases e : i = 4
      · subst e
        rw [up_i, day_4]
      · rw [up_j e, r2 v (by omega) (by omega), SO_ne (by omega), x1 i hi, day_lo (by omega) e]
    · rw [day_lo (by decide) (by decide)] at hr
      rw [up_k (by omega), up_k (by omega), up_k (by omega), r2 (v + 1) (by omega) (by omega), r2 (v + 2) (by omega) (by omega), r2 (v + 3) (by omega) (by omega), SO_ne (k := v + 1) (by omega), SO_ne (k := v + 3) (by omega), day_lo (by omega) (by omega), day_la (by omega), day_mid (by omega) (by omega)]
      have := SO_at (σ := σ) (a := v + 2) (o := 0) (u := lavN u) hr
      rw [Nat.zero_add] at this
      exact ⟨(x2 r hr).1, this, (x2 r hr).2.2⟩
    · rw [day_lo (by decide) (by decide)] at hk
      rw [up_k (by omega), up_k (by omega), up_k (by omega), up_k (by omega), r2 (v + 4) (by omega) (by omega), r2 (v + 5) (by omega) (by omega), SO_ne (by omega), SO_ne (by omega), day_mid (by omega) (by omega), day_mid (by omega) (by omega), day_ro (by omega)]
      exact ⟨(x3 k hk).1, (x3 k hk).2.1, (r3 k hk).1, (r3 k hk).2⟩
  · intro k hk
    rw [up_k (by omega), r2 k (by omega) (by omega), SO_ne (by omega)]
