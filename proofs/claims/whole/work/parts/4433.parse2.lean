/-! how a street is read: numbers and signs, on both sides -/
def FXs (τ : Sto) (c a : Nat) : Sto := up (up τ 5 2 (nI c)) 5 3 (nI a)
theorem failsX {τ : Sto} {c a : Nat} (h5 : τ 5 5 = nI a) : fX6_fails τ (nI c) = (FXs τ c a, 0) := by
  unfold fX6_fails FXs
  rw [un_e, un_e, up_j (show (5 : Nat) ≠ 2 by decide), h5]
theorem rl_0 {L : Nat → Nat} {s a : Nat} : 0 < rlN L (s - a) a ↔ a < s ∧ 48 ≤ L a ∧ L a ≤ 57 := by
  by_cases c : a < s
  · obtain ⟨k, hk⟩ : ∃ k, s - a = k + 1 := ⟨s - a - 1, by omega⟩
    rw [hk, rlN]
    by_cases d : 48 ≤ L a ∧ L a ≤ 57
    · rw [if_pos d]
      exact ⟨fun _ => ⟨c, d⟩, fun _ => by omega⟩
    · rw [if_neg d]
      exact ⟨fun q => by omega, fun q => absurd q.2 d⟩
  · rw [show s - a = 0 by omega]
    exact ⟨fun q => by have : 0 < 0 := q; omega, fun q => absurd q.1 c⟩
theorem numX_L {τ σx σm : Sto} {s a : Nat} {L : Nat → Nat} {x1 x2 : Int32} (kk : Sto → Int32 → Int32 → Int32 → Int32 → Option (Sto × Int32)) (hT : TP σx σm s L) (h1 : τ 5 1 = nI s) (h6 : τ 6 = σx 6) : ∀ (k j f : Nat), a + j + k = s → k < f → (∀ i, i < j → 48 ≤ L (a + i) ∧ L (a + i) ≤ 57) → fX6_readNumber_L11 kk f τ x1 x2 (nI (vvN L a j)) (nI j) (nI (a + j)) = kk τ x1 x2 (nI (vvN L a (j + rlN L k (a + j)))) (nI (j + rlN L k (a + j))) := by
  have h90 := hT.1
  intro k
  induction k with
  | zero =>
    intro j f hk hf hd
    obtain ⟨f, rfl⟩ : ∃ z, f = z + 1 := ⟨f - 1, by omega⟩
    rw [fX6_readNumber_L11, h1, if_pos (nI_le (by omega) (by omega))]
    rfl
  | succ k ih =>
    intro j f hk hf hd
    obtain ⟨f, rfl⟩ : ∃ z, f = z + 1 := ⟨f - 1, by omega⟩
    have hb := (hT.2.1 (a + j) (by omega)).1
    have hv := (vv_le hd).1
    rw [fX6_readNumber_L11, h1, if_neg (nI_ge (by omega) (by omega)), vin_t (by omega) (by decide), gd_t, nI_clamp (by omega), h6, (hT.2.1 (a + j) (by omega)).2.1, rlN, show (48 : Int32) = nI 48 from rfl, show (57 : Int32) = nI 57 from rfl]
    by_cases c1 : L (a + j) < 48
    · rw [if_pos (nI_lt c1 (by decide)), if_neg (fun q => by omega)]
      rfl
    · rw [if_neg (nI_nlt (by omega) (by omega))]
      by_cases c2 : 57 < L (a + j)
      · rw [if_pos (nI_lt c2 (by omega)), if_neg (fun q => by omega)]
        rfl
      · have c : 48 ≤ L (a + j) ∧ L (a + j) ≤ 57 := by omega
        rw [if_neg (nI_nlt (by omega) (by decide)), if_pos c]
        have hd' : ∀ i, i < j + 1 → 48 ≤ L (a + i) ∧ L (a + i) ≤ 57 := fun i hi => by
          by_cases e : i = j
          · rw [e]
            exact c
          · exact hd i (by omega)
        have ih' := ih (j + 1) f (by omega) (by omega) hd'
        rw [show a + (j + 1) = a + j + 1 by omega, show j + 1 + rlN L k (a + j + 1) = j + (rlN L k (a + j + 1) + 1) by omega] at ih'
        rw [← ih', vvN]
        by_cases c3 : 2 ≤ j
        · rw [if_pos (show (2 : Int32) ≤ nI j from nI_le (a := 2) c3 (by omega)), if_pos c3, un_e, un_e, n32_1, nI_add, nI_add]
        · rw [if_neg (show ¬ (2 : Int32) ≤ nI j from nI_ge (b := 2) (by omega) (by decide)), if_neg c3, un_e, un_e, un_e, n32_10, pk_mul, nI_add, pk_sub (by omega), n32_1, nI_add, nI_add]
theorem number_X {τ σx σm : Sto} {s a lo hi : Nat} {L : Nat → Nat} (hT : TP σx σm s L) (h1 : τ 5 1 = nI s) (h6 : τ 6 = σx 6) (h5 : τ 5 5 = nI a) (ha : a ≤ s) (hl : lo < 100) (hh : hi < 100) : fX6_readNumber τ (nI lo) (nI hi) = some (if rlN L (s - a) a = 0 ∨ 2 < rlN L (s - a) a then (FXs τ 1 a, -1) else if vvN L a (rlN L (s - a) a) < lo ∨ hi < vvN L a (rlN L (s - a) a) then (FXs τ 2 a, -1) else (up τ 5 5 (nI (a + rlN L (s - a) a)), nI (vvN L a (rlN L (s - a) a)))) := by
  have h90 := hT.1
  have hrl := rl_le L (s - a) a
  have hv := (vv_le (L := L) (a := a) (j := rlN L (s - a) a) (fun i hi => rl_dg hi)).1
  have hq := numX_L (a := a) (x1 := nI lo) (x2 := nI hi) fX6_readNumber_j79 hT h1 h6 (s - a) 0 fu (by omega) (fu_gt (by omega)) (fun i hi => by omega)
  rw [Nat.zero_add, Nat.add_zero] at hq
  have hq : fX6_readNumber_L11 fX6_readNumber_j79 fu τ (nI lo) (nI hi) (0 : Int32) (0 : Int32) (nI a) = _ := hq
  unfold fX6_readNumber
  rw [un_e, h5, hq]
  unfold fX6_readNumber_j79
  rw [show fX6_fails τ (1 : Int32) = (FXs τ 1 a, 0) from failsX (c := 1) h5, show fX6_fails τ (2 : Int32) = (FXs τ 2 a, 0) from failsX (c := 2) h5, un_e, un_e, un_e, h5, nI_add]
  by_cases c0 : rlN L (s - a) a = 0
  · rw [if_pos (show nI (rlN L (s - a) a) < (1 : Int32) by rw [c0]; decide), if_pos (Or.inl c0)]
  · rw [if_neg (show ¬ nI (rlN L (s - a) a) < (1 : Int32) from nI_nlt (b := 1) (by omega) (by omega))]
    by_cases c2 : rlN L (s - a) a ≤ 2
    · rw [if_pos (show nI (rlN L (s - a) a) ≤ (2 : Int32) from nI_le (b := 2) c2 (by decide)), if_neg (show ¬ (rlN L (s - a) a = 0 ∨ 2 < rlN L (s - a) a) by omega)]
      by_cases c3 : vvN L a (rlN L (s - a) a) < lo
      · rw [if_pos (nI_lt c3 (by omega)), if_pos (Or.inl c3)]
      · rw [if_neg (nI_nlt (by omega) (by omega))]
        by_cases c4 : vvN L a (rlN L (s - a) a) ≤ hi
        · rw [if_pos (nI_le c4 (by omega)), if_neg (show ¬ (vvN L a (rlN L (s - a) a) < lo ∨ hi < vvN L a (rlN L (s - a) a)) by omega)]
        · rw [if_neg (nI_ge (by omega) (by omega)), if_pos (Or.inr (show hi < vvN L a (rlN L (s - a) a) by omega))]
    · rw [if_neg (show ¬ nI (rlN L (s - a) a) ≤ (2 : Int32) from nI_ge (a := 2) (by omega) (by omega)), if_pos (Or.inr (show 2 < rlN L (s - a) a by omega))]
theorem next_X {τ σx σm : Sto} {s a : Nat} {L : Nat → Nat} (hT : TP σx σm s L) (h1 : τ 5 1 = nI s) (h6 : τ 6 = σx 6) (h5 : τ 5 5 = nI a) (ha : a ≤ s) : fX6_next τ = some (if a < s then nI (L a) else -1) := by
  have h90 := hT.1
  unfold fX6_next
  rw [h1, h5]
  by_cases c : a < s
  · rw [if_neg (nI_ge c (by omega)), vin_t (by omega) (by decide), gd_t, nI_clamp (by omega), h6, (hT.2.1 a (by omega)).2.1, if_pos c]
  · rw [if_pos (nI_le (by omega) (by omega)), if_neg c]
theorem nx_c {s a : Nat} {L : Nat → Nat} {c : Nat} (hL : a < s → L a < 256) (hc : c < 256) : (if a < s then nI (L a) else (-1 : Int32)) = nI c ↔ a < s ∧ L a = c := by
  by_cases h : a < s
  · have := hL h
    rw [if_pos h, nI_eq (by omega) (by omega)]
    exact ⟨fun q => ⟨h, q⟩, fun q => q.2⟩
  · rw [if_neg h]
    constructor
    · intro q
      have h2 : ¬ nI c < 0 := nI_pos (by omega)
      rw [← q] at h2
      exact absurd (by decide) h2
    · exact fun q => absurd q.1 h
theorem sign_X {τ σx σm : Sto} {s a sg : Nat} {L : Nat → Nat} (hT : TP σx σm s L) (h1 : τ 5 1 = nI s) (h6 : τ 6 = σx 6) (h5 : τ 5 5 = nI a) (ha : a ≤ s) (hs : sg < 256) : fX6_readSign τ (nI sg) = some (if a < s ∧ L a = sg then (up τ 5 5 (nI (a + 1)), 1) else (FXs τ 1 a, 0)) := by
  have h90 := hT.1
  have hn := nx_c (s := s) (a := a) (L := L) (c := sg) (fun q => (hT.2.1 a (by omega)).1) hs
  unfold fX6_readSign
  rw [next_X hT h1 h6 h5 ha, bd_s, show fX6_fails τ (1 : Int32) = (FXs τ 1 a, 0) from failsX (c := 1) h5, un_e, un_e, h5, show nI a + (1 : Int32) = nI (a + 1) from nI_add a 1]
  by_cases c : a < s ∧ L a = sg
  · rw [if_pos (hn.mpr c), if_pos c]
  · rw [if_neg (fun q => c (hn.mp q)), if_neg c]
    rfl
theorem MP_F {σ σm : Sto} {a c : Nat} {w : Nat → Nat} {σ' : Sto} (h : MP σ σm a w) (h1 : ∀ k, k ≠ 0 → k ≠ 5 → σ' k = σ k) (h2 : ∀ j, j < 16 → σ' 0 j = σ 0 j) (e : Nat) (h17 : σ' 0 17 = nI e) : MF (up σ' 0 20 (nI c)) σm c e := ⟨fun k k0 k5 => by rw [up_k k0, h1 k k0 k5, h.1 k k0 k5], fun j hj => by rw [up_j (by omega), h2 j hj, h.2.1 j hj], up_i, by rw [up_j (by decide)]; exact h17⟩
theorem number_M {σ σx σm : Sto} {s a lo hi sg idx : Nat} {L w : Nat → Nat} (hT : TP σx σm s L) (h : MP σ σm a w) (ha : a ≤ s) (hl : lo < 100) (hh : hi < 100) (hi2 : idx < 59) (hsg : sg = 44 ∨ sg = 59) : ∃ σ', (((rlN L (s - a) a = 0 ∨ 2 < rlN L (s - a) a) ∧ fX10_number σ (nI idx) (nI lo) (nI hi) (nI sg) = some (σ', 0) ∧ MF σ' σm 1 a) ∨ (¬ (rlN L (s - a) a = 0 ∨ 2 < rlN L (s - a) a) ∧ (vvN L a (rlN L (s - a) a) < lo ∨ hi < vvN L a (rlN L (s - a) a)) ∧ fX10_number σ (nI idx) (nI lo) (nI hi) (nI sg) = some (σ', 0) ∧ MF σ' σm 2 a) ∨ (¬ (rlN L (s - a) a = 0 ∨ 2 < rlN L (s - a) a) ∧ ¬ (vvN L a (rlN L (s - a) a) < lo ∨ hi < vvN L a (rlN L (s - a) a)) ∧ a + rlN L (s - a) a < s ∧ L (a + rlN L (s - a) a) = sg ∧ fX10_number σ (nI idx) (nI lo) (nI hi) (nI sg) = some (σ', 1) ∧ MP σ' σm (a + rlN L (s - a) a + 1) (va_up w idx (vvN L a (rlN L (s - a) a)))) ∨ (¬ (rlN L (s - a) a = 0 ∨ 2 < rlN L (s - a) a) ∧ ¬ (vvN L a (rlN L (s - a) a) < lo ∨ hi < vvN L a (rlN L (s - a) a)) ∧ ¬ (a + rlN L (s - a) a < s ∧ L (a + rlN L (s - a) a) = sg) ∧ fX10_number σ (nI idx) (nI lo) (nI hi) (nI sg) = some (σ', 0) ∧ MF σ' σm 1 (a + rlN L (s - a) a))) := by
  have h90 := hT.1
  have hrl := rl_le L (s - a) a
  have hr0 := @rl_0 L s a
  have hv := (vv_le (L := L) (a := a) (j := rlN L (s - a) a) (fun i hi => rl_dg hi)).1
  obtain ⟨σ1, s1, s2, s3, s4, s5⟩ := step_M hT h ha
  have hloI : (nI lo).toInt64.toInt = (lo : Int) := by rw [i64_nI, nI_toInt (by omega)]
  have hhiI : (nI hi).toInt64.toInt = (hi : Int) := by rw [i64_nI, nI_toInt (by omega)]
  have bad : ∀ kd : Nat, kd < 5 → kd ≠ 2 → σ1 0 18 = nI kd → fX10_number σ (nI idx) (nI lo) (nI hi) (nI sg) = some (up σ1 0 20 (nI 1), 0) := by
    intro kd k5 k2 e
    unfold fX10_number fX10_fails
    rw [s1, bd_s, e, if_neg (show ¬ nI kd = (2 : Int32) from fun q => k2 ((nI_eq (by omega) (by decide)).mp q)), un_e, un_e]
    rfl
  have hF : MF (up σ1 0 20 (nI 1)) σm 1 a := MP_F h (fun k k0 _ => s2 k k0) s3 a s4
  rcases s5 with ⟨p1, p2⟩ | ⟨p1, p2, p3, p4, p5, p6⟩ | ⟨p1, p2, p3, p4, p5, p6⟩ | ⟨p1, p2, p3, p4⟩ | ⟨p1, p2, p3, p4, p5⟩ | ⟨p1, p2, p3, p4, p5, p6⟩
  · exact ⟨_, Or.inl ⟨Or.inl (by omega), bad 0 (by decide) (by decide) p2, hF⟩⟩
  · exact ⟨_, Or.inl ⟨Or.inl (by omega), bad 1 (by decide) (by decide) p4, hF⟩⟩
  · have hr1 := hr0.mpr ⟨p1, p2⟩
    have hnb : ¬ (rlN L (s - a) a = 0 ∨ 2 < rlN L (s - a) a) := by omega
    have hN : fX10_number σ (nI idx) (nI lo) (nI hi) (nI sg) = (if fX10_in (nI (vvN L a (rlN L (s - a) a))).toInt64 (nI lo).toInt64 (nI hi).toInt64 = (0 : Int32) then some (up σ1 0 20 (nI 2), 0) else (bd (fX10_step (up σ1 5 idx (nI (vvN L a (rlN L (s - a) a))))) fun q_5 => if (q_5 0 18) = (3 : Int32) then (if (q_5 0 19) = nI sg then some (q_5, (1 : Int32)) else fX10_number_j70 q_5) else fX10_number_j70 q_5)) := by
      unfold fX10_number fX10_fails
      rw [s1, bd_s, p4, if_pos (show nI 2 = (2 : Int32) from rfl), p5, un_e, un_e, vin_t hi2 (by decide), gd_t, nI_clamp (by omega), un_e]
      rfl
    rw [hN, in_c (a := lo) (b := hi) hloI hhiI (by omega)]
    by_cases c : lo ≤ vvN L a (rlN L (s - a) a) ∧ vvN L a (rlN L (s - a) a) ≤ hi
    · rw [if_pos c, if_neg one_n0]
      have hMP : MP (up σ1 5 idx (nI (vvN L a (rlN L (s - a) a)))) σm (a + rlN L (s - a) a) (va_up w idx (vvN L a (rlN L (s - a) a))) := ⟨fun k k0 k5 => by rw [up_k k5, s2 k k0, h.1 k k0 k5], fun j hj => by rw [up_k (by decide), s3 j hj, h.2.1 j hj], by rw [up_k (by decide)]; exact p6, fun j hj => by
        by_cases e : j = idx
        · subst e
          rw [up_i, vu_self]
        · rw [up_j e, vu_ne e, s2 5 (by decide)]
          exact h.2.2.2 j hj⟩
      obtain ⟨σ2, t1, t2, t3, t4, t5⟩ := step_M hT hMP (by omega)
      rw [t1, bd_s]
      have hF2 : MF (up σ2 0 20 (nI 1)) σm 1 (a + rlN L (s - a) a) := MP_F hMP (fun k k0 _ => t2 k k0) t3 _ t4
      have h70 : fX10_number_j70 σ2 = some (up σ2 0 20 (nI 1), 0) := by
        unfold fX10_number_j70 fX10_fails
        rw [un_e, un_e, if_pos rfl]
        rfl
      rw [h70]
      have bad2 : ∀ kd : Nat, kd < 5 → kd ≠ 3 → σ2 0 18 = nI kd → (if (σ2 0 18) = (3 : Int32) then (if (σ2 0 19) = nI sg then some (σ2, (1 : Int32)) else some (up σ2 0 20 (nI 1), 0)) else some (up σ2 0 20 (nI 1), 0)) = some (up σ2 0 20 (nI 1), 0) := by
        intro kd k5 k3 e
        rw [e, if_neg (show ¬ nI kd = (3 : Int32) from fun q => k3 ((nI_eq (by omega) (by decide)).mp q))]
      have hc : ¬ (vvN L a (rlN L (s - a) a) < lo ∨ hi < vvN L a (rlN L (s - a) a)) := by omega
      rcases t5 with ⟨z1, z2⟩ | ⟨z1, z2, z3, z4, z5, z6⟩ | ⟨z1, z2, z3, z4, z5, z6⟩ | ⟨z1, z2, z3, z4⟩ | ⟨z1, z2, z3, z4, z5⟩ | ⟨z1, z2, z3, z4, z5, z6⟩
      · exact ⟨_, Or.inr (Or.inr (Or.inr ⟨hnb, hc, fun q => by omega, bad2 0 (by decide) (by decide) z2, hF2⟩))⟩
      · exact ⟨_, Or.inr (Or.inr (Or.inr ⟨hnb, hc, fun q => by omega, bad2 1 (by decide) (by decide) z4, hF2⟩))⟩
      · exact ⟨_, Or.inr (Or.inr (Or.inr ⟨hnb, hc, fun q => by omega, bad2 2 (by decide) (by decide) z4, hF2⟩))⟩
      · exact ⟨_, Or.inr (Or.inr (Or.inr ⟨hnb, hc, fun q => by omega, bad2 4 (by decide) (by decide) z4, hF2⟩))⟩
      · by_cases cs : L (a + rlN L (s - a) a) = sg
        · refine ⟨σ2, Or.inr (Or.inr (Or.inl ⟨hnb, hc, z1, cs, ?_, ⟨fun k k0 k5 => by rw [t2 k k0, hMP.1 k k0 k5], fun j hj => by rw [t3 j hj, hMP.2.1 j hj], z5, fun j hj => by rw [t2 5 (by decide)]; exact hMP.2.2.2 j hj⟩⟩))⟩
          rw [z3, if_pos (show nI 3 = (3 : Int32) from rfl), z4, cs, if_pos rfl]
        · refine ⟨_, Or.inr (Or.inr (Or.inr ⟨hnb, hc, fun q => cs q.2, ?_, hF2⟩))⟩
          rw [z3, if_pos (show nI 3 = (3 : Int32) from rfl), z4, if_neg (fun q => cs ((nI_eq (by omega) (by omega)).mp q))]
      · exact ⟨_, Or.inr (Or.inr (Or.inr ⟨hnb, hc, fun q => by omega, bad2 4 (by decide) (by decide) z6, hF2⟩))⟩
    · rw [if_neg c, if_pos rfl]
      exact ⟨_, Or.inr (Or.inl ⟨hnb, by omega, rfl, MP_F h (fun k k0 _ => s2 k k0) s3 a s4⟩)⟩
  · exact ⟨_, Or.inl ⟨Or.inr p3, bad 4 (by decide) (by decide) p4, hF⟩⟩
  · exact ⟨_, Or.inl ⟨Or.inl (by omega), bad 3 (by decide) (by decide) p3, hF⟩⟩
  · exact ⟨_, Or.inl ⟨Or.inl (by omega), bad 4 (by decide) (by decide) p6, hF⟩⟩
/-- a number and a sign behind it, on both sides -/
theorem num_J {τ σ σx σm : Sto} {s a lo hi sg idx : Nat} {L w wx : Nat → Nat} (hT : TP σx σm s L) (hX : XP τ σx s a wx) (h : MP σ σm a w) (ha : a ≤ s) (hl : lo < 100) (hh : hi < 100) (hi2 : idx < 59) (hsg : sg = 44 ∨ sg = 59) : (∃ τ' σ' c, fX6_readNumber τ (nI lo) (nI hi) = some (τ', -1) ∧ fX10_number σ (nI idx) (nI lo) (nI hi) (nI sg) = some (σ', 0) ∧ XF τ' σx c a ∧ MF σ' σm c a) ∨ (∃ v e σ', lo ≤ v ∧ v ≤ hi ∧ e ≤ s ∧ fX6_readNumber τ (nI lo) (nI hi) = some (up τ 5 5 (nI e), nI v) ∧ ((e < s ∧ L e = sg ∧ fX10_number σ (nI idx) (nI lo) (nI hi) (nI sg) = some (σ', 1) ∧ MP σ' σm (e + 1) (va_up w idx v)) ∨ (¬ (e < s ∧ L e = sg) ∧ fX10_number σ (nI idx) (nI lo) (nI hi) (nI sg) = some (σ', 0) ∧ MF σ' σm 1 e))) := by
  have h90 := hT.1
  have hrl := rl_le L (s - a) a
  obtain ⟨x1, x2, x3, x4, x5⟩ := id hX
  have hnx := number_X (lo := lo) (hi := hi) hT x2 (x1 6 (by decide) (by decide)) x4 ha hl hh
  have hxf : ∀ c, XF (FXs τ c a) σx c a := fun c => ⟨fun k k5 hk => by unfold FXs; rw [up_k k5, up_k k5, x1 k k5 hk], by unfold FXs; rw [up_j (by decide), up_i], by unfold FXs; rw [up_i]⟩
  obtain ⟨σ', q⟩ := number_M (lo := lo) (hi := hi) (sg := sg) (idx := idx) hT h ha hl hh hi2 hsg
  rcases q with ⟨q1, q2, q3⟩ | ⟨q1, q2, q3, q4⟩ | ⟨q1, q2, q3, q4, q5, q6⟩ | ⟨q1, q2, q3, q4, q5⟩
  · rw [if_pos q1] at hnx
    exact Or.inl ⟨_, σ', 1, hnx, q2, hxf 1, q3⟩
  · rw [if_neg q1, if_pos q2] at hnx
    exact Or.inl ⟨_, σ', 2, hnx, q3, hxf 2, q4⟩
  · rw [if_neg q1, if_neg q2] at hnx
    exact Or.inr ⟨_, _, σ', by omega, by omega, by omega, hnx, Or.inl ⟨q3, q4, q5, q6⟩⟩
  · rw [if_neg q1, if_neg q2] at hnx
    exact Or.inr ⟨_, _, σ', by omega, by omega, by omega, hnx, Or.inr ⟨q3, q4, q5⟩⟩
