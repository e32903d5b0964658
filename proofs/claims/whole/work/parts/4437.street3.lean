/-! how a street is read: the things, and all -/
theorem rt_M {σ1 σx σm : Sto} {s a : Nat} {L w : Nat → Nat} (hT : TP σx σm s L) (h5 : ∀ j, j < 59 → σ1 5 j = nI (w j)) (h0 : 3 ≤ w 0) (h0' : w 0 ≤ 10) (ha : a ≤ s) (t6 : σ1 0 18 = (1 : Int32) ↔ a < s ∧ 97 ≤ L a ∧ L a ≤ 122) (t7 : σ1 0 18 = (1 : Int32) → σ1 0 19 = nI (L a)) : fX10_readsThing σ1 = fX10_readsThing_j36 σ1 (nI (w 1)) (nI (nsN s L a)) := by
  have h90 := hT.1
  unfold fX10_readsThing fX10_readsThing_j35
  rw [un_e, h5 1 (by decide), h5 0 (by decide), if_neg (show ¬ nI (w 0) ≤ (2 : Int32) from nI_ge (a := 2) (by omega) (by omega))]
  unfold nsN
  by_cases g : σ1 0 18 = (1 : Int32)
  · have g3 := t6.mp g
    rw [if_pos g, t7 g, sort_M ((hT.2.1 a (by omega)).1), if_pos g3.1]
  · rw [if_neg g]
    by_cases c : a < s
    · have hz : soN (L a) = 0 := by
        apply Classical.byContradiction
        intro q
        have := (so_b (L a)).2 q
        exact g (t6.mpr ⟨c, this.1, this.2.1⟩)
      rw [if_pos c, hz]
      rfl
    · rw [if_neg c]
      rfl
/-- the end of a reading that went well -/
def MO (ρ σm : Sto) (w : Nat → Nat) : Prop := (∀ k, k ≠ 0 → k ≠ 5 → ρ k = σm k) ∧ (∀ j, j < 16 → ρ 0 j = σm 0 j) ∧ ∀ j, j < 59 → ρ 5 j = nI (w j)
theorem j38_X {τ σx σm : Sto} {s a : Nat} {L w : Nat → Nat} (hT : TP σx σm s L) (hX : XP τ σx s a w) (ha : a ≤ s) : fX6_readThings_j38 τ = if a = s then some (τ, 1) else if nsN s L a = 0 then some (FXs τ 1 a, 0) else some (FXs τ 3 a, 0) := by
  have h90 := hT.1
  have hs5 := (so_b (L a)).1
  have hns : nsN s L a ≤ 5 := by
    unfold nsN
    split
    · exact hs5
    · omega
  unfold fX6_readThings_j38
  rw [hX.2.2.2.1, hX.2.1, next_X hT hX.2.1 (XP_6 hX) hX.2.2.2.1 ha, bd_s, sort_X (fun z => (hT.2.1 a (by omega)).1), show fX6_fails τ (1 : Int32) = (FXs τ 1 a, 0) from failsX (c := 1) hX.2.2.2.1, show fX6_fails τ (3 : Int32) = (FXs τ 3 a, 0) from failsX (c := 3) hX.2.2.2.1, un_e, un_e]
  by_cases c : a = s
  · rw [if_pos (show nI a = nI s by rw [c]), if_pos c]
  · rw [if_neg (fun z => c ((nI_eq (by omega) (by omega)).mp z)), if_neg c]
    by_cases d : nsN s L a = 0
    · rw [if_pos (show nI (nsN s L a) = (0 : Int32) by rw [d]; rfl), if_pos d]
      rfl
    · rw [if_neg (nI_n0 (by omega) d), if_neg d]
      rfl
theorem thing_J {σx σm : Sto} {s : Nat} {L : Nat → Nat} (hT : TP σx σm s L) : ∀ (q : Nat) (τ σ : Sto) (w : Nat → Nat) (a fX fM : Nat), w 1 + q = 6 → q < fX → q + 1 < fM → XP τ σx s a w → MP σ σm a w → DW w → 3 ≤ w 0 → a ≤ s → (w 1 = 0 → ¬ (a < s ∧ L a = 114)) → (∃ τ' ρ c p, fX6_readThings_L2 fX6_readThings_j38 fX τ (nI (w 1)) = some (τ', 0) ∧ (bd (fX10_step σ) fun q_8 => fX10_reads_L85 fM q_8) = some (ρ, 0) ∧ XF τ' σx c p ∧ MF ρ σm c p) ∨ (∃ τ' ρ w', fX6_readThings_L2 fX6_readThings_j38 fX τ (nI (w 1)) = some (τ', 1) ∧ (bd (fX10_step σ) fun q_8 => fX10_reads_L85 fM q_8) = some (ρ, 1) ∧ XP τ' σx s s w' ∧ MO ρ σm w' ∧ DW w' ∧ 3 ≤ w' 0 ∧ 1 ≤ w' 1) := by
  have h90 := hT.1
  intro q
  induction q with
  | zero =>
    intro τ σ w a fX fM hq hfX hfM hX hM hw h0 ha hr
    obtain ⟨fX, rfl⟩ : ∃ z, fX = z + 1 := ⟨fX - 1, by omega⟩
    obtain ⟨fM, rfl⟩ : ∃ z, fM = z + 1 := ⟨fM - 1, by omega⟩
    obtain ⟨σ1, t1, t2, t3, t4, t5, t6, t7⟩ := tok_M hT hM ha
    have h6 : w 1 = 6 := by omega
    have h5 : ∀ j, j < 59 → σ1 5 j = nI (w j) := fun j hj => by rw [t2 5 (by decide)]; exact hM.2.2.2 j hj
    have hXj : fX6_readThings_L2 fX6_readThings_j38 (fX + 1) τ (nI (w 1)) = fX6_readThings_j38 τ := by
      rw [fX6_readThings_L2, n32_6, if_pos (nI_le (by omega) (by omega))]
    rw [hXj, j38_X hT hX ha, t1, bd_s, fX10_reads_L85, h5 1 (by decide), h6, if_neg (show ¬ nI 6 = (0 : Int32) by decide)]
    by_cases c : a = s
    · rw [if_pos c, if_pos (t5.mpr c)]
      rw [c] at hX
      exact Or.inr ⟨τ, σ1, w, rfl, rfl, hX, ⟨fun k k0 k5 => by rw [t2 k k0, hM.1 k k0 k5], fun j hj => by rw [t3 j hj, hM.2.1 j hj], h5⟩, hw, h0, by omega⟩
    · rw [if_neg c, if_neg (fun z => c (t5.mp z))]
      have hrt := rt_M hT h5 h0 hw.1 ha t6 (fun z => (t7 z).1)
      have h101 : fX10_reads_j101 (fX10_reads_L85 fM) σ1 = fX10_reads_j132 (fX10_reads_L85 fM) σ1 (0 : Int32) := by
        unfold fX10_reads_j101 fX10_reads_j131
        rw [h5 1 (by decide), h6, if_neg (show ¬ nI 6 = (0 : Int32) by decide)]
        by_cases g : σ1 0 18 = (1 : Int32)
        · rw [if_pos g]
          by_cases g2 : σ1 0 19 = (114 : Int32)
          · rw [if_pos g2]
          · rw [if_neg g2]
        · rw [if_neg g]
      rw [h101]
      unfold fX10_reads_j132
      rw [if_pos rfl, hrt, h6]
      unfold fX10_readsThing_j36
      rw [show (un (fX10_fails σ1 (1 : Int32)) fun q => gd (isB q.2) (some (q.1, q.2))) = _ from failM σ1 1, show (un (fX10_fails σ1 (3 : Int32)) fun q => gd (isB q.2) (some (q.1, q.2))) = _ from failM σ1 3, if_pos (show nI 6 = (6 : Int32) from rfl)]
      have hns : nsN s L a ≤ 5 := by
        unfold nsN
        split
        · exact (so_b (L a)).1
        · omega
      by_cases d : nsN s L a = 0
      · rw [if_pos d, d, if_pos (show nI 0 = (0 : Int32) from rfl), bd_s]
        dsimp only
        rw [if_pos rfl]
        exact Or.inl ⟨_, _, 1, a, rfl, rfl, XP_F hX, t4 1⟩
      · rw [if_neg d, if_neg (nI_n0 (by omega) d), bd_s]
        dsimp only
        rw [if_pos rfl]
        exact Or.inl ⟨_, _, 3, a, rfl, rfl, XP_F hX, t4 3⟩
  | succ q ih =>
    intro τ σ w a fX fM hq hfX hfM hX hM hw h0 ha hr
    obtain ⟨fX, rfl⟩ : ∃ z, fX = z + 1 := ⟨fX - 1, by omega⟩
    obtain ⟨fM, rfl⟩ : ∃ z, fM = z + 1 := ⟨fM - 1, by omega⟩
    obtain ⟨σ1, t1, t2, t3, t4, t5, t6, t7⟩ := tok_M hT hM ha
    have hw0 := hw.1
    have h5 : ∀ j, j < 59 → σ1 5 j = nI (w j) := fun j hj => by rw [t2 5 (by decide)]; exact hM.2.2.2 j hj
    by_cases ce : w 1 ≠ 0 ∧ a = s
    · have hXj : fX6_readThings_L2 fX6_readThings_j38 (fX + 1) τ (nI (w 1)) = fX6_readThings_j38 τ := by
        rw [fX6_readThings_L2, n32_6, if_neg (nI_ge (by omega) (by omega)), if_neg (nI_n0 (by omega) ce.1), hX.2.1, hX.2.2.2.1, if_pos (nI_le (by omega) (by omega))]
      rw [hXj, j38_X hT hX ha, if_pos ce.2, t1, bd_s, fX10_reads_L85, h5 1 (by decide), if_neg (nI_n0 (by omega) ce.1), if_pos (t5.mpr ce.2)]
      have hX' := hX
      rw [ce.2] at hX'
      exact Or.inr ⟨τ, σ1, w, rfl, rfl, hX', ⟨fun k k0 k5 => by rw [t2 k k0, hM.1 k k0 k5], fun j hj => by rw [t3 j hj, hM.2.1 j hj], h5⟩, hw, h0, by omega⟩
    · have hns : nsN s L a ≤ 5 := by
        unfold nsN
        split
        · exact (so_b (L a)).1
        · omega
      have hXj : fX6_readThings_L2 fX6_readThings_j38 (fX + 1) τ (nI (w 1)) = fX6_readThings_j23 (fX6_readThings_L2 fX6_readThings_j38 fX) τ (nI (w 1)) := by
        rw [fX6_readThings_L2, n32_6, if_neg (nI_ge (by omega) (by omega))]
        by_cases z : w 1 = 0
        · rw [if_pos (show nI (w 1) = (0 : Int32) by rw [z]; rfl)]
        · rw [if_neg (nI_n0 (by omega) z), hX.2.1, hX.2.2.2.1, if_neg (nI_ge (by omega) (by omega))]
      have hrt := rt_M hT h5 h0 hw.1 ha t6 (fun z => (t7 z).1)
      have h101 : fX10_reads_j101 (fX10_reads_L85 fM) σ1 = fX10_reads_j132 (fX10_reads_L85 fM) σ1 (0 : Int32) := by
        unfold fX10_reads_j101 fX10_reads_j131
        rw [h5 1 (by decide)]
        by_cases g : σ1 0 18 = (1 : Int32)
        · have g2 := (t7 g).1
          have g3 := t6.mp g
          have hb := (hT.2.1 a (by omega)).1
          rw [if_pos g, g2]
          by_cases g4 : L a = 114
          · rw [if_pos (show nI (L a) = (114 : Int32) by rw [g4]; rfl), if_neg (nI_n0 (by omega) (fun z => hr z ⟨g3.1, g4⟩))]
          · rw [if_neg (show ¬ nI (L a) = (114 : Int32) from fun z => g4 ((nI_eq (by omega) (by decide)).mp z))]
        · rw [if_neg g]
      have hL85 : fX10_reads_L85 (fM + 1) σ1 = fX10_reads_j132 (fX10_reads_L85 fM) σ1 (0 : Int32) := by
        rw [fX10_reads_L85, h101, h5 1 (by decide)]
        by_cases g : σ1 0 18 = (0 : Int32)
        · have g2 := t5.mp g
          have g3 : w 1 = 0 := by
            apply Classical.byContradiction
            intro z
            exact ce ⟨z, g2⟩
          rw [if_pos g, if_pos (show nI (w 1) = (0 : Int32) by rw [g3]; rfl)]
        · rw [if_neg g]
      rw [hXj, t1, bd_s, hL85]
      unfold fX6_readThings_j23 fX6_readThing fX10_reads_j132
      rw [next_X hT hX.2.1 (XP_6 hX) hX.2.2.2.1 ha, bd_s, sort_X (fun z => (hT.2.1 a (by omega)).1), un_e, if_pos rfl, hrt]
      unfold fX10_readsThing_j36
      by_cases d : nsN s L a = 0
      · rw [d, if_pos (show nI 0 = (0 : Int32) from rfl), if_pos (show nI 0 = (0 : Int32) from rfl), show fX6_fails τ (1 : Int32) = (FXs τ 1 a, 0) from failsX (c := 1) hX.2.2.2.1, un_e, show (un (fX10_fails σ1 (1 : Int32)) fun q => gd (isB q.2) (some (q.1, q.2))) = _ from failM σ1 1, bd_s]
        dsimp only
        rw [show isB (0 : Int32) = true by decide, gd_t, bd_s]
        dsimp only
        rw [if_pos rfl, if_pos rfl]
        exact Or.inl ⟨_, _, 1, a, rfl, rfl, XP_F hX, t4 1⟩
      · have hlet : a < s ∧ 97 ≤ L a ∧ L a ≤ 122 := by
          by_cases c : a < s
          · have e : nsN s L a = soN (L a) := if_pos c
            have := (so_b (L a)).2 (by rw [← e]; exact d)
            exact ⟨c, this.1, this.2.1⟩
          · exact absurd (show nsN s L a = 0 from if_neg c) d
        have hM1 := (t7 (t6.mpr hlet)).2
        have hM2 : MP (up (up σ1 5 (35 + w 1) (nI (nsN s L a))) 5 1 (nI (w 1 + 1))) σm (a + 1) (va_up (va_up w (35 + w 1) (nsN s L a)) 1 (w 1 + 1)) := ⟨fun k k0 k5 => by rw [up_k k5, up_k k5, hM1.1 k k0 k5], fun j hj => by rw [up_k (by decide), up_k (by decide), hM1.2.1 j hj], by rw [up_k (by decide), up_k (by decide)]; exact hM1.2.2.1, fun j hj => by
          by_cases e : j = 1
          · subst e
            rw [up_i, vu_self]
          · rw [up_j e, vu_ne e]
            by_cases e2 : j = 35 + w 1
            · subst e2
              rw [up_i, vu_self]
            · rw [up_j e2, vu_ne e2]
              exact hM1.2.2.2 j hj⟩
        have hX1 := XP_5 (e := a + 1) hX
        have e440 : up τ 5 5 (nI (a + 1)) 44 0 = nI (w 0) := hX1.2.2.2.2.1 0 (by decide)
        have e51 : up σ1 5 (35 + w 1) (nI (nsN s L a)) 5 1 = nI (w 1) := by rw [up_j (by omega)]; exact h5 1 (by decide)
        have e50 : up (up σ1 5 (35 + w 1) (nI (nsN s L a))) 5 1 (nI (w 1 + 1)) 5 0 = nI (w 0) := by rw [up_j (by decide), up_j (by omega)]; exact h5 0 (by decide)
        rw [if_neg (nI_n0 (by omega) d), if_neg (nI_n0 (by omega) d), if_neg (show ¬ nI (w 1) = (6 : Int32) from fun z => by have := (nI_eq (a := w 1) (b := 6) (by omega) (by decide)).mp z; omega), hX.2.2.2.1, show nI a + (1 : Int32) = nI (a + 1) from nI_add a 1, un_e, e440, show (35 : Int32) + nI (w 1) = nI (35 + w 1) from nI_add 35 (w 1), vin_t (show 35 + w 1 < 59 by omega) (by decide), gd_t, nI_clamp (show 35 + w 1 < 2 ^ 31 by omega), un_e, e51, show nI (w 1) + (1 : Int32) = nI (w 1 + 1) from nI_add (w 1) 1, un_e, e50, show nI (w 0) - (1 : Int32) = nI (w 0 - 1) from pk_sub (b := 1) (by omega), show (47 : Int32) + nI (w 1) = nI (47 + w 1) from nI_add 47 (w 1), show (41 : Int32) + nI (w 1) = nI (41 + w 1) from nI_add 41 (w 1)]
        rcases num_J (lo := 0) (hi := w 0 - 1) (sg := 44) (idx := 47 + w 1) hT hX1 hM2 (by omega) (by decide) (by omega) (by omega) (Or.inl rfl) with ⟨τ', σ', cc, n1, n2, n3, n4⟩ | ⟨v, e, σ', v1, v2, v3, n1, n2⟩
        · rw [show fX6_readNumber _ (0 : Int32) _ = _ from n1, show fX10_number _ _ (0 : Int32) _ (44 : Int32) = _ from n2, bd_s, bd_s]
          dsimp only
          rw [if_pos rfl, if_pos rfl, bd_s, bd_s]
          dsimp only
          rw [if_pos rfl, if_pos rfl]
          exact Or.inl ⟨τ', σ', cc, a + 1, rfl, rfl, n3, n4⟩
        · rw [show fX6_readNumber _ (0 : Int32) _ = _ from n1, bd_s]
          dsimp only
          rw [if_neg (m1_ne (by omega))]
          have hX2 := XP_5 (e := e) hX1
          have hs2 := sign_X (sg := 44) hT hX2.2.1 (XP_6 hX2) hX2.2.2.2.1 v3 (by decide)
          rw [show fX6_readSign _ (44 : Int32) = _ from hs2, bd_s]
          rcases n2 with ⟨e1, e2, n2, hM3⟩ | ⟨e1, n2, n3⟩
          · rw [if_pos (show e < s ∧ L e = 44 from ⟨e1, e2⟩), show fX10_number _ _ (0 : Int32) _ (44 : Int32) = _ from n2, bd_s]
            dsimp only
            rw [if_neg one_n0, if_neg one_n0]
            have hX3 := XP_5 (e := e + 1) hX2
            rcases num_J (lo := 1) (hi := 9) (sg := 59) (idx := 41 + w 1) hT hX3 hM3 (by omega) (by decide) (by decide) (by omega) (Or.inr rfl) with ⟨τ', σ2, cc, n1, n2, n3, n4⟩ | ⟨v', e', σ2, v1', v2', v3', n1, n2⟩
            · rw [show fX6_readNumber _ (1 : Int32) (9 : Int32) = _ from n1, show fX10_number _ _ (1 : Int32) (9 : Int32) (59 : Int32) = _ from n2, bd_s, bd_s]
              dsimp only
              rw [if_pos rfl, if_pos rfl, bd_s, bd_s]
              dsimp only
              rw [if_pos rfl, if_pos rfl]
              exact Or.inl ⟨τ', σ2, cc, e + 1, rfl, rfl, n3, n4⟩
            · rw [show fX6_readNumber _ (1 : Int32) (9 : Int32) = _ from n1, bd_s]
              dsimp only
              rw [if_neg (m1_ne (by omega))]
              have hX4 := XP_5 (e := e') hX3
              have hs3 := sign_X (sg := 59) hT hX4.2.1 (XP_6 hX4) hX4.2.2.2.1 v3' (by decide)
              rw [show fX6_readSign _ (59 : Int32) = _ from hs3, bd_s]
              rcases n2 with ⟨f1, f2, n2, hM4⟩ | ⟨f1, n2, n3⟩
              · rw [if_pos (show e' < s ∧ L e' = 59 from ⟨f1, f2⟩), show fX10_number _ _ (1 : Int32) (9 : Int32) (59 : Int32) = _ from n2, bd_s]
                dsimp only
                rw [if_neg one_n0, if_neg one_n0]
                have hX5 := XP_5 (e := e' + 1) hX4
                obtain ⟨τ6, a1, a2, a3⟩ := addThing_X (so := nsN s L a) (ro := v) (hi := v') hX5.2.2.2.2 hw (by omega) (by omega)
                have hX6 : XP τ6 σx s (e' + 1) (thW w (nsN s L a) v v') := XP_n hX5 a3 a2
                obtain ⟨b1', b2, b3⟩ := DW_th (so := nsN s L a) (ro := v) (hi := v') hw (show w 1 < 6 by omega) ⟨by omega, hns⟩ (by omega) ⟨v1', v2'⟩
                rw [a1, bd_s, bd_s, bd_s]
                dsimp only
                rw [if_neg one_n0, if_neg one_n0, un_e, ← b3]
                exact ih τ6 σ2 (thW w (nsN s L a) v v') (e' + 1) fX fM (by omega) (by omega) (by omega) hX6 hM4 b1' (by omega) (by omega) (fun z => by omega)
              · rw [if_neg f1, show fX10_number _ _ (1 : Int32) (9 : Int32) (59 : Int32) = _ from n2, bd_s]
                dsimp only
                rw [if_pos rfl, if_pos rfl, bd_s, bd_s]
                dsimp only
                rw [if_pos rfl, if_pos rfl]
                exact Or.inl ⟨_, σ2, 1, e', rfl, rfl, XP_F hX4, n3⟩
          · rw [if_neg e1, show fX10_number _ _ (0 : Int32) _ (44 : Int32) = _ from n2, bd_s]
            dsimp only
            rw [if_pos rfl, if_pos rfl, bd_s, bd_s]
            dsimp only
            rw [if_pos rfl, if_pos rfl]
            exact Or.inl ⟨_, σ', 1, e, rfl, rfl, XP_F hX2, n3⟩
