/-! how a street is read: the loops -/
theorem room_J {σx σm : Sto} {s : Nat} {L : Nat → Nat} (hT : TP σx σm s L) : ∀ (q : Nat) (τ σ : Sto) (w : Nat → Nat) (a fX fM : Nat), w 0 + q = 10 → q < fX → q + 8 < fM → XP τ σx s a w → MP σ σm a w → DW w → w 1 = 0 → a ≤ s → (∃ τ' ρ c p, fX6_readRooms_L2 fX6_readRooms_j32 fX τ (nI (w 0)) = some (τ', 0) ∧ (bd (fX10_step σ) fun q_8 => fX10_reads_L85 fM q_8) = some (ρ, 0) ∧ XF τ' σx c p ∧ MF ρ σm c p) ∨ (∃ τ' σ' w' a' fM', fX6_readRooms_L2 fX6_readRooms_j32 fX τ (nI (w 0)) = some (τ', 1) ∧ (bd (fX10_step σ) fun q_8 => fX10_reads_L85 fM q_8) = (bd (fX10_step σ') fun q_8 => fX10_reads_L85 fM' q_8) ∧ XP τ' σx s a' w' ∧ MP σ' σm a' w' ∧ DW w' ∧ w' 1 = 0 ∧ 3 ≤ w' 0 ∧ a' ≤ s ∧ 8 < fM' ∧ ¬ (a' < s ∧ L a' = 114)) := by
  have h90 := hT.1
  intro q
  induction q with
  | zero =>
    intro τ σ w a fX fM hq hfX hfM hX hM hw h1 ha
    obtain ⟨fX, rfl⟩ : ∃ z, fX = z + 1 := ⟨fX - 1, by omega⟩
    have hn := nx_c (s := s) (a := a) (L := L) (c := 114) (fun z => (hT.2.1 a (by omega)).1) (by decide)
    have h10 : w 0 = 10 := by omega
    have hj : fX6_readRooms_L2 fX6_readRooms_j32 (fX + 1) τ (nI (w 0)) = if (if a < s then nI (L a) else (-1 : Int32)) = nI 114 then some (FXs τ 3 a, 0) else some (τ, 1) := by
      rw [fX6_readRooms_L2, n32_10, if_pos (nI_le (by omega) (by omega))]
      unfold fX6_readRooms_j32
      rw [hX.2.2.2.2.1 0 (by decide), n32_3, if_pos (nI_le (by omega) (by omega)), next_X hT hX.2.1 (XP_6 hX) hX.2.2.2.1 ha, bd_s, failsX hX.2.2.2.1, un_e]
      rfl
    rw [hj]
    by_cases c : a < s ∧ L a = 114
    · rw [if_pos (hn.mpr c)]
      obtain ⟨fM, rfl⟩ : ∃ z, fM = z + 1 := ⟨fM - 1, by omega⟩
      obtain ⟨σ1, l1, l2, l3, l4, l5⟩ := let_M hT hM c.1 (by omega)
      refine Or.inl ⟨_, up σ1 0 20 (nI 3), 3, a, rfl, ?_, XP_F hX, l5 3⟩
      have e51 : σ1 5 1 = nI 0 := by rw [l4.2.2.2 1 (by decide), h1]
      have e50 : σ1 5 0 = nI 10 := by rw [l4.2.2.2 0 (by decide), h10]
      rw [l1, bd_s, fX10_reads_L85, l2, if_neg (show ¬ nI 1 = (0 : Int32) by decide)]
      unfold fX10_reads_j101 fX10_reads_j132 fX10_readsRoom
      rw [l2, if_pos (show nI 1 = (1 : Int32) from rfl), l3, c.2, if_pos (show nI 114 = (114 : Int32) from rfl), e51, if_pos (show nI 0 = (0 : Int32) from rfl), if_neg one_n0, un_e, e50, if_pos (show nI 10 = (10 : Int32) from rfl), show (un (fX10_fails σ1 (3 : Int32)) fun q => gd (isB q.2) (some (q.1, q.2))) = _ from failM σ1 3, bd_s]
      dsimp only
      rw [if_pos rfl]
    · rw [if_neg (fun z => c (hn.mp z))]
      exact Or.inr ⟨τ, σ, w, a, fM, rfl, rfl, hX, hM, hw, h1, by omega, ha, by omega, c⟩
  | succ q ih =>
    intro τ σ w a fX fM hq hfX hfM hX hM hw h1 ha
    obtain ⟨fX, rfl⟩ : ∃ z, fX = z + 1 := ⟨fX - 1, by omega⟩
    obtain ⟨fM, rfl⟩ : ∃ z, fM = z + 1 := ⟨fM - 1, by omega⟩
    have hn := nx_c (s := s) (a := a) (L := L) (c := 114) (fun z => (hT.2.1 a (by omega)).1) (by decide)
    by_cases c : a < s ∧ L a = 114
    · obtain ⟨σ1, l1, l2, l3, l4, l5⟩ := let_M hT hM c.1 (by omega)
      have hX1 := XP_5 (e := a + 1) hX
      have hsg := sign_X (sg := 114) hT hX.2.1 (XP_6 hX) hX.2.2.2.1 ha (by decide)
      rw [if_pos c] at hsg
      have e51 : σ1 5 1 = nI 0 := by rw [l4.2.2.2 1 (by decide), h1]
      have e50 : σ1 5 0 = nI (w 0) := l4.2.2.2 0 (by decide)
      have hM1 : MP (up σ1 5 0 (nI (w 0 + 1))) σm (a + 1) (va_up w 0 (w 0 + 1)) := ⟨fun k k0 k5 => by rw [up_k k5, l4.1 k k0 k5], fun j hj => by rw [up_k (by decide), l4.2.1 j hj], by rw [up_k (by decide)]; exact l4.2.2.1, fun j hj => by
        by_cases e : j = 0
        · subst e
          rw [up_i, vu_self]
        · rw [up_j e, vu_ne e]
          exact l4.2.2.2 j hj⟩
      have hMr : (bd (fX10_step σ) fun q_8 => fX10_reads_L85 (fM + 1) q_8) = (bd (fX10_number (up σ1 5 0 (nI (w 0 + 1))) (nI (5 + w 0)) (0 : Int32) (9 : Int32) (59 : Int32)) fun q_3 => gd (isB q_3.2) (if q_3.2 = (0 : Int32) then some (q_3.1, (0 : Int32)) else (bd (fX10_step q_3.1) fun q_4 => fX10_reads_L85 fM q_4))) := by
        rw [l1, bd_s, fX10_reads_L85, l2, if_neg (show ¬ nI 1 = (0 : Int32) by decide)]
        unfold fX10_reads_j101 fX10_reads_j132 fX10_readsRoom
        rw [l2, if_pos (show nI 1 = (1 : Int32) from rfl), l3, c.2, if_pos (show nI 114 = (114 : Int32) from rfl), e51, if_pos (show nI 0 = (0 : Int32) from rfl), if_neg one_n0, un_e, e50, if_neg (show ¬ nI (w 0) = (10 : Int32) from fun z => by have := (nI_eq (a := w 0) (b := 10) (by omega) (by decide)).mp z; omega), un_e, show nI (w 0) + (1 : Int32) = nI (w 0 + 1) from nI_add (w 0) 1, show (5 : Int32) + nI (w 0) = nI (5 + w 0) from nI_add 5 (w 0)]
        cases fX10_number (up σ1 5 0 (nI (w 0 + 1))) (nI (5 + w 0)) (0 : Int32) (9 : Int32) (59 : Int32) with
        | none => rfl
        | some p =>
          rw [bd_s, bd_s]
          cases isB p.2
          · rfl
          · rfl
      have hXr : fX6_readRooms_L2 fX6_readRooms_j32 (fX + 1) τ (nI (w 0)) = (bd (fX6_readNumber (up τ 5 5 (nI (a + 1))) (0 : Int32) (9 : Int32)) fun q_2 => if q_2.2 = (-1 : Int32) then some (q_2.1, (0 : Int32)) else (bd (fX6_readSign q_2.1 (59 : Int32)) fun q_3 => if q_3.2 = (0 : Int32) then some (q_3.1, (0 : Int32)) else (bd (fX8_addRoom q_3.1 44 q_2.2) fun q_4 => fX6_readRooms_L2 fX6_readRooms_j32 fX q_4 (nI (w 0 + 1))))) := by
        rw [fX6_readRooms_L2, n32_10, if_neg (nI_ge (by omega) (by omega)), next_X hT hX.2.1 (XP_6 hX) hX.2.2.2.1 ha, bd_s, show (114 : Int32) = nI 114 from rfl, if_pos (hn.mpr c)]
        unfold fX6_readRoom
        rw [show fX6_readSign τ (114 : Int32) = _ from hsg, bd_s]
        dsimp only
        rw [if_neg one_n0]
        cases fX6_readNumber (up τ 5 5 (nI (a + 1))) (0 : Int32) (9 : Int32) with
        | none => rfl
        | some p =>
          rw [bd_s, bd_s]
          by_cases d : p.2 = (-1 : Int32)
          · rw [if_pos d, if_pos d, bd_s]
            dsimp only
            rw [if_pos rfl]
          · rw [if_neg d, if_neg d]
            cases fX6_readSign p.1 (59 : Int32) with
            | none => rfl
            | some r =>
              rw [bd_s, bd_s]
              by_cases g : r.2 = (0 : Int32)
              · rw [if_pos g, if_pos g, bd_s]
                dsimp only
                rw [if_pos rfl]
              · rw [if_neg g, if_neg g]
                cases fX8_addRoom r.1 44 p.2 with
                | none => rfl
                | some t =>
                  rw [bd_s, bd_s, bd_s]
                  dsimp only
                  rw [if_neg one_n0, un_e, show nI (w 0) + (1 : Int32) = nI (w 0 + 1) from nI_add (w 0) 1]
      rw [hMr, hXr]
      rcases num_J (lo := 0) (hi := 9) (sg := 59) (idx := 5 + w 0) hT hX1 hM1 (by omega) (by decide) (by decide) (by omega) (Or.inr rfl) with ⟨τ', σ', cc, n1, n2, n3, n4⟩ | ⟨v, e, σ', v1, v2, v3, n1, n2⟩
      · rw [show fX6_readNumber _ (0 : Int32) (9 : Int32) = _ from n1, show fX10_number _ _ (0 : Int32) (9 : Int32) (59 : Int32) = _ from n2, bd_s, bd_s]
        dsimp only
        rw [if_pos rfl, if_pos rfl]
        exact Or.inl ⟨τ', σ', cc, a + 1, rfl, rfl, n3, n4⟩
      · rw [show fX6_readNumber _ (0 : Int32) (9 : Int32) = _ from n1, bd_s]
        dsimp only
        rw [if_neg (m1_ne (by omega))]
        have hX2 := XP_5 (e := e) hX1
        have hs2 := sign_X (sg := 59) hT hX2.2.1 (XP_6 hX2) hX2.2.2.2.1 v3 (by decide)
        rw [show fX6_readSign _ (59 : Int32) = _ from hs2, bd_s]
        rcases n2 with ⟨e1, e2, n2, hM2⟩ | ⟨e1, n2, n3⟩
        · rw [if_pos (show e < s ∧ L e = 59 from ⟨e1, e2⟩), show fX10_number _ _ (0 : Int32) (9 : Int32) (59 : Int32) = _ from n2, bd_s]
          dsimp only
          rw [if_neg one_n0, if_neg one_n0, show isB (1 : Int32) = true by decide, gd_t]
          obtain ⟨τ3, a1, a2, a3⟩ := addRoom_X (v := v) (XP_5 (e := e + 1) hX2).2.2.2.2 hw (by omega) h1
          have hX3 : XP τ3 σx s (e + 1) (rmW w v) := XP_n (XP_5 (e := e + 1) hX2) a3 a2
          obtain ⟨b1', b2, b3⟩ := DW_rm hw (show w 0 < 10 by omega) h1 v2
          rw [a1, bd_s, ← b2]
          exact ih τ3 σ' (rmW w v) (e + 1) fX fM (by omega) (by omega) (by omega) hX3 hM2 b1' b3 (by omega)
        · rw [if_neg e1, show fX10_number _ _ (0 : Int32) (9 : Int32) (59 : Int32) = _ from n2, bd_s]
          dsimp only
          rw [if_pos rfl, if_pos rfl]
          exact Or.inl ⟨_, σ', 1, e, rfl, rfl, XP_F hX2, n3⟩
    · have hj : fX6_readRooms_L2 fX6_readRooms_j32 (fX + 1) τ (nI (w 0)) = if nI 3 ≤ nI (w 0) then some (τ, 1) else some (FXs τ 1 a, 0) := by
        rw [fX6_readRooms_L2, n32_10, if_neg (nI_ge (by omega) (by omega)), next_X hT hX.2.1 (XP_6 hX) hX.2.2.2.1 ha, bd_s, show (114 : Int32) = nI 114 from rfl, if_neg (fun z => c (hn.mp z))]
        unfold fX6_readRooms_j32
        rw [hX.2.2.2.2.1 0 (by decide), n32_3, next_X hT hX.2.1 (XP_6 hX) hX.2.2.2.1 ha, bd_s, show (114 : Int32) = nI 114 from rfl, if_neg (fun z => c (hn.mp z)), show fX6_fails τ (1 : Int32) = (FXs τ 1 a, 0) from failsX (c := 1) hX.2.2.2.1, un_e]
        rfl
      rw [hj]
      by_cases d : 3 ≤ w 0
      · rw [if_pos (nI_le d (by omega))]
        exact Or.inr ⟨τ, σ, w, a, fM + 1, rfl, rfl, hX, hM, hw, h1, d, ha, by omega, c⟩
      · rw [if_neg (nI_ge (by omega) (by omega))]
        obtain ⟨σ1, t1, t2, t3, t4, t5, t6, t7⟩ := tok_M hT hM ha
        refine Or.inl ⟨_, up σ1 0 20 (nI 1), 1, a, rfl, ?_, XP_F hX, t4 1⟩
        have e51 : σ1 5 1 = nI 0 := by rw [t2 5 (by decide), hM.2.2.2 1 (by decide), h1]
        have e50 : σ1 5 0 = nI (w 0) := by rw [t2 5 (by decide)]; exact hM.2.2.2 0 (by decide)
        have h36 : ∀ x, fX10_readsThing_j36 σ1 x (0 : Int32) = some (up σ1 0 20 (nI 1), (0 : Int32)) := fun x => by
          unfold fX10_readsThing_j36
          rw [if_pos rfl, show (un (fX10_fails σ1 (1 : Int32)) fun q => gd (isB q.2) (some (q.1, q.2))) = _ from failM σ1 1]
        have hrt : fX10_readsThing σ1 = some (up σ1 0 20 (nI 1), (0 : Int32)) := by
          unfold fX10_readsThing fX10_readsThing_j35
          rw [un_e, h36, e50, if_pos (show nI (w 0) ≤ (2 : Int32) from nI_le (b := 2) (by omega) (by decide))]
          by_cases g : σ1 0 18 = (1 : Int32)
          · rw [if_pos g]
          · rw [if_neg g]
        have h132 : fX10_reads_j132 (fX10_reads_L85 fM) σ1 (0 : Int32) = some (up σ1 0 20 (nI 1), (0 : Int32)) := by
          unfold fX10_reads_j132
          rw [if_pos rfl, hrt, bd_s]
          dsimp only
          rw [if_pos rfl]
        have h101 : fX10_reads_j101 (fX10_reads_L85 fM) σ1 = some (up σ1 0 20 (nI 1), (0 : Int32)) := by
          unfold fX10_reads_j101 fX10_reads_j131
          rw [h132]
          by_cases g : σ1 0 18 = (1 : Int32)
          · have g2 := (t7 g).1
            have g3 := t6.mp g
            rw [if_pos g, g2, if_neg (show ¬ nI (L a) = (114 : Int32) from fun z => c ⟨g3.1, (nI_eq (by omega) (by decide)).mp z⟩)]
          · rw [if_neg g]
        rw [t1, bd_s, fX10_reads_L85, h101, e51, if_pos (show nI 0 = (0 : Int32) from rfl)]
        by_cases g : σ1 0 18 = (0 : Int32)
        · rw [if_pos g]
        · rw [if_neg g]
