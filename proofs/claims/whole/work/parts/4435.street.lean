/-! how a street is read: law, rooms, things -/
theorem XP_5 {τ σx : Sto} {s a e : Nat} {w : Nat → Nat} (h : XP τ σx s a w) : XP (up τ 5 5 (nI e)) σx s e w := ⟨fun k k5 hk => by rw [up_k k5, h.1 k k5 hk], by rw [up_j (by decide)]; exact h.2.1, by rw [up_j (by decide)]; exact h.2.2.1, up_i, VX_fr h.2.2.2.2 (fun k _ _ => up_k (by omega))⟩
theorem XP_F {τ σx : Sto} {s a c e : Nat} {w : Nat → Nat} (h : XP τ σx s a w) : XF (FXs τ c e) σx c e := ⟨fun k k5 hk => by unfold FXs; rw [up_k k5, up_k k5, h.1 k k5 hk], by unfold FXs; rw [up_j (by decide), up_i], by unfold FXs; rw [up_i]⟩
theorem XP_6 {τ σx : Sto} {s a : Nat} {w : Nat → Nat} (h : XP τ σx s a w) : τ 6 = σx 6 := h.1 6 (by decide) (by decide)
theorem XP_n {τ τ' σx : Sto} {s a : Nat} {w w' : Nat → Nat} (h : XP τ σx s a w) (hf : ∀ k, (k < 44 ∨ 52 ≤ k) → τ' k = τ k) (hV : VX τ' 44 w') : XP τ' σx s a w' := ⟨fun k k5 hk => by rw [hf k hk, h.1 k k5 hk], by rw [hf 5 (by decide)]; exact h.2.1, by rw [hf 5 (by decide)]; exact h.2.2.1, by rw [hf 5 (by decide)]; exact h.2.2.2.1, hV⟩
theorem m1_ne {v : Nat} (h : v < 2 ^ 31) : ¬ nI v = (-1 : Int32) := fun q => by
  have h2 : ¬ nI v < 0 := nI_pos h
  rw [q] at h2
  exact h2 (by decide)
/-- the state behind a letter -/
theorem let_M {σ σx σm : Sto} {s a : Nat} {L w : Nat → Nat} (hT : TP σx σm s L) (h : MP σ σm a w) (ha : a < s) (hl : 97 ≤ L a ∧ L a ≤ 122) : ∃ σ', fX10_step σ = some σ' ∧ σ' 0 18 = nI 1 ∧ σ' 0 19 = nI (L a) ∧ MP σ' σm (a + 1) w ∧ ∀ c, MF (up σ' 0 20 (nI c)) σm c a := by
  obtain ⟨σ1, s1, s2, s3, s4, s5⟩ := step_M hT h (by omega)
  rcases s5 with ⟨p1, p2⟩ | ⟨p1, p2, p3, p4, p5, p6⟩ | ⟨p1, p2, p3, p4, p5, p6⟩ | ⟨p1, p2, p3, p4⟩ | ⟨p1, p2, p3, p4, p5⟩ | ⟨p1, p2, p3, p4, p5, p6⟩
  · omega
  · exact ⟨σ1, s1, p4, p5, ⟨fun k k0 k5 => by rw [s2 k k0, h.1 k k0 k5], fun j hj => by rw [s3 j hj, h.2.1 j hj], p6, fun j hj => by rw [s2 5 (by decide)]; exact h.2.2.2 j hj⟩, fun c => MP_F h (fun k k0 _ => s2 k k0) s3 a s4⟩
  · omega
  · omega
  · omega
  · exact absurd hl p2
theorem VX_stop {σ : Sto} {v x : Nat} {u : Nat → Nat} (hx : VX σ v u) : VX (up σ v 3 (nI x)) v (va_up u 3 x) := by
  obtain ⟨x1, x2, x3⟩ := hx
  refine ⟨fun i hi => ?_, fun q hq => ?_, fun k hk => ?_⟩
  · by_cases e : i = 3
    · subst e
      rw [up_i, vu_self]
    · rw [up_j e, vu_ne e, x1 i hi]
  · rw [vu_ne (by decide)] at hq
    rw [up_k (by omega), up_k (by omega), up_k (by omega), vu_ne (by omega), vu_ne (by omega), vu_ne (by omega)]
    exact x2 q hq
  · rw [vu_ne (by decide)] at hk
    rw [up_k (by omega), up_k (by omega), up_k (by omega), up_k (by omega), vu_ne (by omega), vu_ne (by omega), vu_ne (by omega), wh_a (by omega)]
    exact x3 k hk
def lawM (f : Nat) (σ : Sto) : Option (Sto × Int32) := bd (fX10_step σ) fun q_3 => if (q_3 0 18) = (1 : Int32) then (if (q_3 0 19) = (118 : Int32) then (bd (fX10_number q_3 (2 : Int32) (0 : Int32) (20 : Int32) (44 : Int32)) fun q_6 => if q_6.2 = (0 : Int32) then some (q_6.1, (0 : Int32)) else (bd (fX10_number q_6.1 (3 : Int32) (0 : Int32) (60 : Int32) (59 : Int32)) fun q_7 => if q_7.2 = (0 : Int32) then some (q_7.1, (0 : Int32)) else (bd (fX10_step q_7.1) fun q_8 => fX10_reads_L85 f q_8))) else (un (fX10_fails q_3 (1 : Int32)) fun q_9 => gd (isB q_9.2) (some (q_9.1, q_9.2)))) else (un (fX10_fails q_3 (1 : Int32)) fun q_4 => gd (isB q_4.2) (some (q_4.1, q_4.2)))
theorem failM (σ : Sto) (c : Nat) : (un (fX10_fails σ (nI c)) fun q => gd (isB q.2) (some (q.1, q.2))) = some (up σ 0 20 (nI c), (0 : Int32)) := by
  unfold fX10_fails
  rw [un_e, un_e]
  rfl
theorem law_J {τ σ σx σm : Sto} {s f : Nat} {L w : Nat → Nat} (hT : TP σx σm s L) (hX : XP τ σx s 0 w) (hM : MP σ σm 0 w) (hw : DW w) (h0 : w 0 = 0) (h1 : w 1 = 0) : (∃ τ' ρ c p, fX6_readLaw τ = some (τ', 0) ∧ lawM f σ = some (ρ, 0) ∧ XF τ' σx c p ∧ MF ρ σm c p) ∨ (∃ τ' σ' w' a, fX6_readLaw τ = some (τ', 1) ∧ lawM f σ = (bd (fX10_step σ') fun q_8 => fX10_reads_L85 f q_8) ∧ XP τ' σx s a w' ∧ MP σ' σm a w' ∧ DW w' ∧ w' 0 = 0 ∧ w' 1 = 0 ∧ a ≤ s) := by
  have h90 := hT.1
  have hsg := sign_X (sg := 118) hT hX.2.1 (XP_6 hX) hX.2.2.2.1 (Nat.zero_le s) (by decide)
  have hsg : fX6_readSign τ (118 : Int32) = _ := hsg
  unfold fX6_readLaw lawM
  rw [hsg, bd_s]
  by_cases c0 : 0 < s ∧ L 0 = 118
  · obtain ⟨σ1, l1, l2, l3, l4, l5⟩ := let_M hT hM c0.1 (by omega)
    rw [if_pos c0]
    dsimp only
    rw [if_neg one_n0, l1, bd_s, l2, if_pos (show nI 1 = (1 : Int32) from rfl), l3, c0.2, if_pos (show nI 118 = (118 : Int32) from rfl)]
    have hX1 : XP (up τ 5 5 (nI (0 + 1))) σx s (0 + 1) w := XP_5 hX
    rcases num_J (lo := 0) (hi := 20) (sg := 44) (idx := 2) hT hX1 l4 (by omega) (by decide) (by decide) (by decide) (Or.inl rfl) with ⟨τ', σ', c, n1, n2, n3, n4⟩ | ⟨v, e, σ', v1, v2, v3, n1, n2⟩
    · have n1 : fX6_readNumber (up τ 5 5 (nI (0 + 1))) (0 : Int32) (20 : Int32) = some (τ', -1) := n1
      have n2 : fX10_number σ1 (2 : Int32) (0 : Int32) (20 : Int32) (44 : Int32) = some (σ', 0) := n2
      rw [n1, n2, bd_s, bd_s]
      dsimp only
      rw [if_pos rfl, un_e, up_i, if_pos rfl]
      exact Or.inl ⟨_, σ', c, 0 + 1, rfl, rfl, ⟨fun k k5 hk => by rw [up_k (by omega), n3.1 k k5 hk], by rw [up_k (by decide)]; exact n3.2.1, by rw [up_k (by decide)]; exact n3.2.2⟩, n4⟩
    · have n1 : fX6_readNumber (up τ 5 5 (nI (0 + 1))) (0 : Int32) (20 : Int32) = some (up (up τ 5 5 (nI (0 + 1))) 5 5 (nI e), nI v) := n1
      rw [n1, bd_s]
      dsimp only
      rw [un_e, up_i, if_neg (m1_ne (by omega))]
      have hX2 : XP (up (up (up τ 5 5 (nI (0 + 1))) 5 5 (nI e)) 44 2 (nI v)) σx s e (va_up w 2 v) := XP_n (XP_5 hX1) (fun k hk => up_k (by omega)) (VX_feed (XP_5 (e := e) hX1).2.2.2.2)
      have hs2 := sign_X (sg := 44) hT hX2.2.1 (XP_6 hX2) hX2.2.2.2.1 v3 (by decide)
      have hs2 : fX6_readSign (up (up (up τ 5 5 (nI (0 + 1))) 5 5 (nI e)) 44 2 (nI v)) (44 : Int32) = _ := hs2
      rw [hs2, bd_s]
      rcases n2 with ⟨e1, e2, n2, hM2⟩ | ⟨e1, n2, n3⟩
      · have n2 : fX10_number σ1 (2 : Int32) (0 : Int32) (20 : Int32) (44 : Int32) = some (σ', 1) := n2
        rw [if_pos (show e < s ∧ L e = 44 from ⟨e1, e2⟩), n2, bd_s]
        dsimp only
        rw [if_neg one_n0, if_neg one_n0]
        have hX3 := XP_5 (e := e + 1) hX2
        rcases num_J (lo := 0) (hi := 60) (sg := 59) (idx := 3) hT hX3 hM2 (by omega) (by decide) (by decide) (by decide) (Or.inr rfl) with ⟨τ', σ', c, n1, n2, n3, n4⟩ | ⟨v', e', σ2, v1', v2', v3', n1, n2⟩
        · have n1 : fX6_readNumber (up (up (up (up τ 5 5 (nI (0 + 1))) 5 5 (nI e)) 44 2 (nI v)) 5 5 (nI (e + 1))) (0 : Int32) (60 : Int32) = some (τ', -1) := n1
          rw [n1, show fX10_number _ (3 : Int32) (0 : Int32) (60 : Int32) (59 : Int32) = some (σ', 0) from n2, bd_s, bd_s]
          dsimp only
          rw [if_pos rfl, un_e, up_i, if_pos rfl]
          exact Or.inl ⟨_, σ', c, e + 1, rfl, rfl, ⟨fun k k5 hk => by rw [up_k (by omega), n3.1 k k5 hk], by rw [up_k (by decide)]; exact n3.2.1, by rw [up_k (by decide)]; exact n3.2.2⟩, n4⟩
        · have n1 : fX6_readNumber (up (up (up (up τ 5 5 (nI (0 + 1))) 5 5 (nI e)) 44 2 (nI v)) 5 5 (nI (e + 1))) (0 : Int32) (60 : Int32) = _ := n1
          rw [n1, bd_s]
          dsimp only
          rw [un_e, up_i, if_neg (m1_ne (by omega))]
          have hX4 : XP (up (up (up (up (up (up τ 5 5 (nI (0 + 1))) 5 5 (nI e)) 44 2 (nI v)) 5 5 (nI (e + 1))) 5 5 (nI e')) 44 3 (nI v')) σx s e' (va_up (va_up w 2 v) 3 v') := XP_n (XP_5 hX3) (fun k hk => up_k (by omega)) (VX_stop (XP_5 (e := e') hX3).2.2.2.2)
          have hs3 := sign_X (sg := 59) hT hX4.2.1 (XP_6 hX4) hX4.2.2.2.1 v3' (by decide)
          rw [show fX6_readSign _ (59 : Int32) = _ from hs3, bd_s]
          rcases n2 with ⟨f1, f2, n2, hM3⟩ | ⟨f1, n2, n3⟩
          · rw [if_pos (show e' < s ∧ L e' = 59 from ⟨f1, f2⟩), show fX10_number _ (3 : Int32) (0 : Int32) (60 : Int32) (59 : Int32) = some (σ2, 1) from n2, bd_s]
            dsimp only
            rw [if_neg one_n0, if_neg one_n0]
            refine Or.inr ⟨_, σ2, _, e' + 1, rfl, rfl, XP_5 hX4, hM3, ?_, by rw [vu_ne (by decide), vu_ne (by decide)]; exact h0, by rw [vu_ne (by decide), vu_ne (by decide)]; exact h1, by omega⟩
            obtain ⟨d0, d1, d2, d3, d4, d5, d6, d7, d8⟩ := hw
            exact ⟨by rw [vu_ne (by decide), vu_ne (by decide)]; exact d0, by rw [vu_ne (by decide), vu_ne (by decide)]; exact d1, by rw [vu_ne (by decide), vu_self]; exact v2, by rw [vu_self]; exact v2', by rw [vu_ne (by decide), vu_ne (by decide)]; exact d4, fun r hr => by rw [vu_ne (by omega), vu_ne (by omega)]; exact d5 r hr, fun j ha hb => by rw [vu_ne (by omega), vu_ne (by omega)]; exact d6 j ha hb, fun k hk => by rw [vu_ne (by omega), vu_ne (by omega)]; exact d7 k hk, fun k hk => by rw [vu_ne (by decide), vu_ne (by decide), h1] at hk; omega⟩
          · rw [if_neg f1, show fX10_number _ (3 : Int32) (0 : Int32) (60 : Int32) (59 : Int32) = some (σ2, 0) from n2, bd_s]
            dsimp only
            rw [if_pos rfl, if_pos rfl]
            exact Or.inl ⟨_, σ2, 1, e', rfl, rfl, XP_F hX4, n3⟩
      · have n2 : fX10_number σ1 (2 : Int32) (0 : Int32) (20 : Int32) (44 : Int32) = some (σ', 0) := n2
        rw [if_neg e1, n2, bd_s]
        dsimp only
        rw [if_pos rfl, if_pos rfl]
        exact Or.inl ⟨_, σ', 1, e, rfl, rfl, XP_F hX2, n3⟩
  · rw [if_neg c0]
    dsimp only
    rw [if_pos rfl]
    obtain ⟨σ1, s1, s2, s3, s4, s5⟩ := step_M hT hM (Nat.zero_le s)
    refine Or.inl ⟨_, up σ1 0 20 (nI 1), 1, 0, rfl, ?_, XP_F hX, MP_F hM (fun k k0 _ => s2 k k0) s3 0 s4⟩
    rw [s1, bd_s, show (un (fX10_fails σ1 (1 : Int32)) fun q => gd (isB q.2) (some (q.1, q.2))) = _ from failM σ1 1]
    by_cases c1 : σ1 0 18 = (1 : Int32)
    · rw [if_pos c1]
      by_cases c2 : σ1 0 19 = (118 : Int32)
      · exfalso
        rcases s5 with ⟨p1, p2⟩ | ⟨p1, p2, p3, p4, p5, p6⟩ | ⟨p1, p2, p3, p4, p5, p6⟩ | ⟨p1, p2, p3, p4⟩ | ⟨p1, p2, p3, p4, p5⟩ | ⟨p1, p2, p3, p4, p5, p6⟩
        · rw [p2] at c1
          exact absurd c1 (by decide)
        · rw [p5] at c2
          exact c0 ⟨p1, (nI_eq (by omega) (by decide)).mp c2⟩
        · rw [p4] at c1
          exact absurd c1 (by decide)
        · rw [p4] at c1
          exact absurd c1 (by decide)
        · rw [p3] at c1
          exact absurd c1 (by decide)
        · rw [p6] at c1
          exact absurd c1 (by decide)
      · rw [if_neg c2]
    · rw [if_neg c1]
/-- what the loop asks of a token: it ends; it is a letter, which; else neither -/
theorem tok_M {σ σx σm : Sto} {s a : Nat} {L w : Nat → Nat} (hT : TP σx σm s L) (h : MP σ σm a w) (ha : a ≤ s) : ∃ σ', fX10_step σ = some σ' ∧ (∀ k, k ≠ 0 → σ' k = σ k) ∧ (∀ j, j < 16 → σ' 0 j = σ 0 j) ∧ (∀ c, MF (up σ' 0 20 (nI c)) σm c a) ∧ (σ' 0 18 = (0 : Int32) ↔ a = s) ∧ (σ' 0 18 = (1 : Int32) ↔ a < s ∧ 97 ≤ L a ∧ L a ≤ 122) ∧ (σ' 0 18 = (1 : Int32) → σ' 0 19 = nI (L a) ∧ MP σ' σm (a + 1) w) := by
  obtain ⟨σ1, s1, s2, s3, s4, s5⟩ := step_M hT h ha
  refine ⟨σ1, s1, s2, s3, fun c => MP_F h (fun k k0 _ => s2 k k0) s3 a s4, ?_⟩
  rcases s5 with ⟨p1, p2⟩ | ⟨p1, p2, p3, p4, p5, p6⟩ | ⟨p1, p2, p3, p4, p5, p6⟩ | ⟨p1, p2, p3, p4⟩ | ⟨p1, p2, p3, p4, p5⟩ | ⟨p1, p2, p3, p4, p5, p6⟩
  · rw [p2]
    exact ⟨⟨fun _ => p1, fun _ => rfl⟩, ⟨fun q => absurd q (by decide), fun q => by omega⟩, fun q => absurd q (by decide)⟩
  · rw [p4]
    exact ⟨⟨fun q => absurd q (by decide), fun q => by omega⟩, ⟨fun _ => ⟨p1, p2, p3⟩, fun _ => rfl⟩, fun _ => ⟨p5, ⟨fun k k0 k5 => by rw [s2 k k0, h.1 k k0 k5], fun j hj => by rw [s3 j hj, h.2.1 j hj], p6, fun j hj => by rw [s2 5 (by decide)]; exact h.2.2.2 j hj⟩⟩⟩
  · rw [p4]
    exact ⟨⟨fun q => absurd q (by decide), fun q => by omega⟩, ⟨fun q => absurd q (by decide), fun q => by omega⟩, fun q => absurd q (by decide)⟩
  · rw [p4]
    exact ⟨⟨fun q => absurd q (by decide), fun q => by omega⟩, ⟨fun q => absurd q (by decide), fun q => by omega⟩, fun q => absurd q (by decide)⟩
  · rw [p3]
    exact ⟨⟨fun q => absurd q (by decide), fun q => by omega⟩, ⟨fun q => absurd q (by decide), fun q => by omega⟩, fun q => absurd q (by decide)⟩
  · rw [p6]
    exact ⟨⟨fun q => absurd q (by decide), fun q => by omega⟩, ⟨fun q => absurd q (by decide), fun q => absurd q.2 p2⟩, fun q => absurd q (by decide)⟩
