/-! an aunt and a dresser by turns: in natural numbers, and the reference -/
def rsN (w : Nat → Nat) : Nat → Nat := va_up w 2 (min 20 (w 2 + 3))
theorem rs_ok {w : Nat → Nat} (h : okV w) : okV (rsN w) := okV_a h (Or.inl ⟨rfl, Nat.min_le_left _ _⟩)
def leF (g : Nat → Nat) (a : Nat) : Nat → Nat
  | 0 => a
  | t + 1 => min (leF g a t) (g t)
theorem leF_le (g : Nat → Nat) (a : Nat) : ∀ t, leF g a t ≤ a
  | 0 => Nat.le_refl _
  | t + 1 => Nat.le_trans (Nat.min_le_left _ _) (leF_le g a t)
theorem leF_congr {g g' : Nat → Nat} {a : Nat} : ∀ {t : Nat}, (∀ k, k < t → g k = g' k) → leF g a t = leF g' a t
  | 0, _ => rfl
  | t + 1, h => by
    show min (leF g a t) (g t) = min (leF g' a t) (g' t)
    rw [leF_congr (fun k hk => h k (by omega)), h t (by omega)]
def gvN (m : Nat) : Nat → Nat → (Nat → Nat) → Nat
  | 0, _, w => pop6 (btN (fun t => dysN m w (53 + t) == 2) (w 1))
  | r + 1, p, w => if p % 2 = 0 then leF (fun t => gvN m r (p + 1) (cyN w t)) (gvN m r (p + 1) w) (w 1) else max (gvN m r (p + 1) w) (gvN m r (p + 1) (rsN w))
theorem gv_le (m : Nat) : ∀ (r p : Nat) (w : Nat → Nat), gvN m r p w ≤ 6
  | 0, _, _ => pop_le _
  | r + 1, p, w => by
    have h1 := gv_le m r (p + 1) w
    have h2 := gv_le m r (p + 1) (rsN w)
    rw [gvN]
    split
    · exact Nat.le_trans (leF_le _ _ _) h1
    · exact Nat.max_le.mpr ⟨h1, h2⟩
/-- a choice that counts; the street behind it -/
def vaN (w : Nat → Nat) (p ch : Nat) : Bool := if p % 2 = 0 then (ch == 0 || (decide (ch ≤ w 1) && w (53 + (ch - 1)) == 0)) else decide (ch < 2)
def nxW (w : Nat → Nat) (p ch : Nat) : Nat → Nat := if ch = 0 then w else if p % 2 = 0 then caN w (ch - 1) else rsN w
def inI (p : Nat) : Int32 := if p % 2 = 0 then 99 else -1
def upI (p : Nat) (b v : Int32) : Int32 := if p % 2 = 0 then fX10_less b v else if v ≤ b then b else v
def bsI (m r p : Nat) (w : Nat → Nat) : Nat → Int32
  | 0 => inI p
  | ch + 1 => if vaN w p ch then upI p (bsI m r p w ch) (nI (gvN m r (p + 1) (nxW w p ch))) else bsI m r p w ch
theorem bs_even {m r p : Nat} {w : Nat → Nat} (hp : p % 2 = 0) (h1 : w 1 ≤ 6) : ∀ t, t ≤ 6 → bsI m r p w (t + 1) = nI (leF (fun t => gvN m r (p + 1) (cyN w t)) (gvN m r (p + 1) w) (min t (w 1)))
  | 0, _ => by
    have h := gv_le m r (p + 1) w
    show (if vaN w p 0 then upI p (inI p) (nI (gvN m r (p + 1) (nxW w p 0))) else inI p) = _
    have e1 : vaN w p 0 = true := by
      unfold vaN
      rw [if_pos hp]
      rfl
    have e2 : nxW w p 0 = w := if_pos rfl
    have e3 : inI p = nI 99 := if_pos hp
    rw [if_pos e1, e2, e3]
    unfold upI
    rw [if_pos hp, less_M (by omega) (by omega), Nat.min_eq_right (by omega), Nat.zero_min]
    rfl
  | t + 1, ht => by
    have ih := bs_even (m := m) (r := r) hp h1 t (by omega)
    have hl := leF_le (fun t => gvN m r (p + 1) (cyN w t)) (gvN m r (p + 1) w)
    have h6 := gv_le m r (p + 1) w
    show (if vaN w p (t + 1) then upI p (bsI m r p w (t + 1)) (nI (gvN m r (p + 1) (nxW w p (t + 1)))) else bsI m r p w (t + 1)) = _
    rw [ih]
    have e2 : nxW w p (t + 1) = caN w t := by
      unfold nxW
      rw [if_neg (by omega), if_pos hp, Nat.add_sub_cancel]
    by_cases c : t < w 1
    · rw [Nat.min_eq_left (show t ≤ w 1 by omega), Nat.min_eq_left (show t + 1 ≤ w 1 by omega)]
      have hlt := hl t
      by_cases s : w (53 + t) = 0
      · have e1 : vaN w p (t + 1) = true := by
          unfold vaN
          rw [if_pos hp, Nat.add_sub_cancel, decide_eq_true (show t + 1 ≤ w 1 by omega), s]
          rfl
        have ec : cyN w t = caN w t := if_pos ⟨c, s⟩
        have h7 := gv_le m r (p + 1) (caN w t)
        rw [if_pos e1, e2]
        unfold upI
        rw [if_pos hp, less_M (by omega) (by omega), ← ec]
        rfl
      · have e1 : vaN w p (t + 1) = false := by
          unfold vaN
          rw [if_pos hp, Nat.add_sub_cancel, show (w (53 + t) == 0) = false from beq_eq_false_iff_ne.mpr s, Bool.and_false]
          rfl
        have ec : cyN w t = w := if_neg (fun q => s q.2)
        rw [e1, if_neg (by decide)]
        show _ = nI (min (leF (fun t => gvN m r (p + 1) (cyN w t)) (gvN m r (p + 1) w) t) (gvN m r (p + 1) (cyN w t)))
        rw [ec, Nat.min_eq_left hlt]
    · have e1 : vaN w p (t + 1) = false := by
        unfold vaN
        rw [if_pos hp, decide_eq_false (show ¬ t + 1 ≤ w 1 by omega), Bool.false_and]
        rfl
      rw [e1, if_neg (by decide), Nat.min_eq_right (show w 1 ≤ t by omega), Nat.min_eq_right (show w 1 ≤ t + 1 by omega)]
theorem bs_odd {m r p : Nat} {w : Nat → Nat} (hp : ¬ p % 2 = 0) : ∀ t, bsI m r p w (t + 2) = nI (max (gvN m r (p + 1) w) (gvN m r (p + 1) (rsN w)))
  | 0 => by
    have h := gv_le m r (p + 1) w
    have h2 := gv_le m r (p + 1) (rsN w)
    have v0 : vaN w p 0 = true := by
      unfold vaN
      rw [if_neg hp]
      rfl
    have v1 : vaN w p 1 = true := by
      unfold vaN
      rw [if_neg hp]
      rfl
    have n0 : nxW w p 0 = w := if_pos rfl
    have n1 : nxW w p 1 = rsN w := by
      unfold nxW
      rw [if_neg (by decide), if_neg hp]
    have e3 : inI p = (-1 : Int32) := if_neg hp
    show (if vaN w p 1 then upI p (if vaN w p 0 then upI p (inI p) (nI (gvN m r (p + 1) (nxW w p 0))) else inI p) (nI (gvN m r (p + 1) (nxW w p 1))) else _) = _
    rw [if_pos v1, if_pos v0, n0, n1, e3]
    unfold upI
    have hm : ¬ nI (gvN m r (p + 1) w) ≤ (-1 : Int32) := by
      rw [Int32.le_iff_toInt_le, nI_toInt (by omega), show (-1 : Int32).toInt = -1 by decide]
      omega
    rw [if_neg hp, if_neg hp, if_neg hm]
    by_cases c : gvN m r (p + 1) (rsN w) ≤ gvN m r (p + 1) w
    · rw [if_pos (nI_le c (by omega)), Nat.max_eq_left c]
    · rw [if_neg (nI_ge (by omega) (by omega)), Nat.max_eq_right (by omega)]
  | t + 1 => by
    have ih := bs_odd (m := m) (r := r) (w := w) hp t
    have e1 : vaN w p (t + 2) = false := by
      unfold vaN
      rw [if_neg hp]
      exact decide_eq_false (by omega)
    show (if vaN w p (t + 2) then upI p (bsI m r p w (t + 2)) (nI (gvN m r (p + 1) (nxW w p (t + 2)))) else bsI m r p w (t + 2)) = _
    rw [e1, if_neg (by decide)]
    exact ih
theorem bs_7 {m r p : Nat} {w : Nat → Nat} (h1 : w 1 ≤ 6) : bsI m r p w 7 = nI (gvN m (r + 1) p w) := by
  rw [gvN]
  by_cases hp : p % 2 = 0
  · rw [if_pos hp, bs_even hp h1 6 (by decide), Nat.min_eq_right h1]
  · rw [if_neg hp]
    exact bs_odd hp 5
/-! the stepped search -/
def GS (σm σ : Sto) (p : Nat) (w : Nat → Nat) : Prop := (∀ k, k ≠ 6 → k ≠ 12 → k ≠ 13 → k ≠ 14 → σ k = σm k) ∧ (∀ j, j < 59 → σ 12 (59 * p + j) = nI (w j)) ∧ (∀ j, p < j → j < 5 → σ 13 j = 0 ∧ σ 14 j = inI j)
def FR (σ σ' : Sto) (p : Nat) : Prop := (∀ j, j < p → σ' 13 j = σ 13 j ∧ σ' 14 j = σ 14 j) ∧ ∀ i, i < 59 * (p + 1) → σ' 12 i = σ 12 i
theorem FR_tr {σ σ' σ'' : Sto} {p : Nat} (h1 : FR σ σ' p) (h2 : FR σ' σ'' p) : FR σ σ'' p := ⟨fun j hj => ⟨by rw [(h2.1 j hj).1, (h1.1 j hj).1], by rw [(h2.1 j hj).2, (h1.1 j hj).2]⟩, fun i hi => by rw [h2.2 i hi, h1.2 i hi]⟩
theorem irm2 {p : Nat} (hp : p < 2 ^ 31) : irm (nI p) (2 : Int32) = nI (p % 2) := irm_n hp (by decide) (by decide)
theorem choose_M {σm σ : Sto} {p ch : Nat} {w : Nat → Nat} (hG : GS σm σ p w) (hw : okV w) (hp : p < 4) (hc : ch < 7) (hT : σm 4 1 = nI (w 1)) : ∃ σ', fX10_chooses σ (nI p) (nI ch) = some (σ', nI (b1 (vaN w p ch))) ∧ (∀ k, k ≠ 6 → k ≠ 12 → σ' k = σ k) ∧ (∀ i, i < 59 * (p + 1) → σ' 12 i = σ 12 i) ∧ (vaN w p ch = true → ∀ j, j < 59 → σ' 12 (59 * (p + 1) + j) = nI (nxW w p ch j)) := by
  have h1 := hw.2.2.2.1
  have h0 := hw.2.1
  have hcp := copies_M (σ := σ) (a0 := 12) (x1 := 59 * p) (a2 := 12) (x3 := 59 * p + 59) (u := w) hG.2.1 (Or.inr (Or.inl (Nat.le_refl _))) (show 59 * p + 59 ≤ 295 by omega) (show 59 * p + 59 + 59 ≤ 295 by omega) (by decide) (by decide)
  have e59 : 59 * (p + 1) = 59 * p + 59 := by omega
  have s1 : ∀ k, k ≠ 12 → SO σ 12 (59 * p + 59) w 59 k = σ k := fun k hk => SO_ne hk
  have s2 : ∀ i, i < 59 * p + 59 → SO σ 12 (59 * p + 59) w 59 12 i = σ 12 i := fun i hi => SO_out (by omega)
  have s3 : ∀ j, j < 59 → SO σ 12 (59 * p + 59) w 59 12 (59 * p + 59 + j) = nI (w j) := fun j hj => SO_at hj
  have e4 : SO σ 12 (59 * p + 59) w 59 4 1 = nI (w 1) := by rw [s1 4 (by decide), hG.1 4 (by decide) (by decide) (by decide) (by decide)]; exact hT
  unfold fX10_chooses
  rw [n32_59, pk_mul, un_e, nI_add, un_e, hcp, bd_s, irm2 (by omega)]
  generalize SO σ 12 (59 * p + 59) w 59 = σ1 at s1 s2 s3 e4
  rw [e59]
  by_cases hpe : p % 2 = 0
  · rw [hpe, if_neg (show ¬ nI 0 = (1 : Int32) by decide)]
    by_cases c0 : ch = 0
    · subst c0
      have ev : vaN w p 0 = true := by
        unfold vaN
        rw [if_pos hpe]
        rfl
      rw [ev]
      exact ⟨σ1, by rw [if_pos (show nI 0 = (0 : Int32) from rfl)]; rfl, fun k _ h => s1 k h, s2, fun _ j hj => by rw [show nxW w p 0 = w from if_pos rfl]; exact s3 j hj⟩
    · obtain ⟨t, rfl⟩ : ∃ t, ch = t + 1 := ⟨ch - 1, by omega⟩
      rw [if_neg (nI_n0 (by omega) c0), e4]
      by_cases ct : w 1 < t + 1
      · have ev : vaN w p (t + 1) = false := by
          unfold vaN
          rw [if_pos hpe, decide_eq_false (by omega), Bool.false_and]
          rfl
        rw [ev]
        exact ⟨σ1, by rw [if_pos (nI_lt ct (by omega))]; rfl, fun k _ h => s1 k h, s2, fun q => absurd q (by decide)⟩
      · have ei : nI (59 * p + 59) + (53 : Int32) + nI (t + 1) - (1 : Int32) = nI (59 * p + 59 + (53 + t)) := by
          rw [n32_53, nI_add, nI_add, n32_1, pk_sub (by omega)]
          exact congrArg nI (by omega)
        rw [if_neg (nI_nlt (by omega) (by omega)), ei, vin_t (by omega) (by decide), gd_t, nI_clamp (by omega), s3 (53 + t) (by omega)]
        obtain ⟨a1, a2, a3, a4, a5, a6⟩ := hw.2.2.2.2.2.2.2.2.2.2.2 t (by omega)
        by_cases s : w (53 + t) = 0
        · have ev : vaN w p (t + 1) = true := by
            unfold vaN
            rw [if_pos hpe, Nat.add_sub_cancel, decide_eq_true (show t + 1 ≤ w 1 by omega), s]
            rfl
          have en : nxW w p (t + 1) = caN w t := by
            unfold nxW
            rw [if_neg (by omega), if_pos hpe, Nat.add_sub_cancel]
          have c1 := copies_M (σ := σ1) (a0 := 12) (x1 := 59 * p + 59) (a2 := 6) (x3 := 0) (u := w) s3 (Or.inl (by decide)) (show 59 * p + 59 + 59 ≤ 295 by omega) (by decide) (by decide) (by decide)
          rw [SO_SM] at c1
          have c2 := goes_M (σ := σ1) (a := 6) (k := t) (d := 1) (u := w) (by omega) (by omega) (by omega) (by omega)
          have c2 : fX10_goes (SM σ1 6 w) 6 (nI t) (1 : Int32) = some (SM σ1 6 (caN w t)) := c2
          have c3 := copies_M (σ := SM σ1 6 (caN w t)) (a0 := 6) (x1 := 0) (a2 := 12) (x3 := 59 * p + 59) (u := caN w t) (fun j hj => by rw [Nat.zero_add]; exact SM_at hj) (Or.inl (by decide)) (by decide) (show 59 * p + 59 + 59 ≤ 295 by omega) (by decide) (by decide)
          rw [ev, if_pos (show nI (w (53 + t)) = (0 : Int32) by rw [s]; rfl), show (0 : Int32) = nI 0 from rfl, c1, bd_s, show nI (t + 1) - (1 : Int32) = nI t from nI_pred t, c2, bd_s, c3, bd_s, en]
          refine ⟨_, rfl, fun k h6 h12 => by rw [SO_ne h12, SM_ne h6, s1 k h12], fun i hi => by rw [SO_out (by omega), SM_ne (by decide), s2 i hi], fun _ j hj => SO_at hj⟩
        · have ev : vaN w p (t + 1) = false := by
            unfold vaN
            rw [if_pos hpe, Nat.add_sub_cancel, show (w (53 + t) == 0) = false from beq_eq_false_iff_ne.mpr s, Bool.and_false]
            rfl
          rw [ev]
          exact ⟨σ1, by rw [if_neg (nI_n0 (by omega) s)]; rfl, fun k _ h => s1 k h, s2, fun q => absurd q (by decide)⟩
  · rw [show p % 2 = 1 by omega, if_pos (show nI 1 = (1 : Int32) from rfl)]
    have hfeed := hw.2.2.2.2.1
    unfold fX10_chooses_j72
    rw [n32_2, nI_add, vin_t (by omega) (by decide), gd_t, gd_t, gd_t, nI_clamp (by omega), un_e, un_e, s3 2 (by decide), n32_3, nI_add, n32_20, less_M (by decide) (by omega)]
    by_cases c0 : ch = 0
    · subst c0
      have ev : vaN w p 0 = true := by
        unfold vaN
        rw [if_neg hpe]
        rfl
      rw [ev, if_pos (show nI 0 = (0 : Int32) from rfl), if_neg (show ¬ nI 2 ≤ nI 0 by decide)]
      refine ⟨_, rfl, fun k _ h => by rw [up_k h, s1 k h], fun i hi => by rw [up_j (by omega), s2 i hi], fun _ j hj => ?_⟩
      rw [show nxW w p 0 = w from if_pos rfl]
      by_cases e : j = 2
      · subst e
        rw [up_i]
      · rw [up_j (by omega)]
        exact s3 j hj
    · rw [if_neg (nI_n0 (by omega) c0)]
      have en : nxW w p ch = rsN w := by
        unfold nxW
        rw [if_neg c0, if_neg hpe]
      by_cases c2 : 2 ≤ ch
      · have ev : vaN w p ch = false := by
          unfold vaN
          rw [if_neg hpe]
          exact decide_eq_false (by omega)
        rw [ev, if_pos (nI_le c2 (by omega))]
        exact ⟨_, rfl, fun k _ h => by rw [up_k h, s1 k h], fun i hi => by rw [up_j (by omega), s2 i hi], fun q => absurd q (by decide)⟩
      · have ev : vaN w p ch = true := by
          unfold vaN
          rw [if_neg hpe]
          exact decide_eq_true (by omega)
        rw [ev, if_neg (nI_ge (by omega) (by omega)), en]
        refine ⟨_, rfl, fun k _ h => by rw [up_k h, s1 k h], fun i hi => by rw [up_j (by omega), s2 i hi], fun _ j hj => ?_⟩
        unfold rsN
        by_cases e : j = 2
        · subst e
          rw [up_i, vu_self]
        · rw [up_j (by omega), vu_ne e]
          exact s3 j hj
theorem ret_M {σ : Sto} {p f : Nat} {x1 x2 v : Int32} (hp : p < 4) : fX10_byTurns_j147 (fX10_byTurns_L95 f) σ x1 x2 (nI (p + 1)) v = fX10_byTurns_L95 f (up (up (up σ 13 (p + 1) 0) 14 (p + 1) (inI (p + 1))) 14 p (upI p (σ 14 p) v)) x1 x2 (nI p) := by
  have e14 : ∀ y, up (up σ 13 (p + 1) 0) 14 (p + 1) y 14 p = σ 14 p := fun y => by rw [up_j (by omega), up_k (by decide)]
  have em : nI (p + 1) + (-1 : Int32) = nI p := pk_m1 p
  unfold fX10_byTurns_j147
  rw [if_neg (nI_n0 (by omega) (by omega)), vin_t (show p + 1 < 5 by omega) (by decide), gd_t, nI_clamp (show p + 1 < 2 ^ 31 by omega), un_e, irm2 (p := p + 1) (by omega)]
  by_cases c : p % 2 = 0
  · rw [show (p + 1) % 2 = 1 by omega, if_neg (show ¬ nI 1 = (0 : Int32) by decide)]
    unfold fX10_byTurns_j180
    rw [vin_t (show p + 1 < 5 by omega) (by decide), gd_t, nI_clamp (show p + 1 < 2 ^ 31 by omega), un_e, un_e, em, irm2 (p := p) (by omega), c, if_pos (show nI 0 = (0 : Int32) from rfl), vin_t (show p < 5 by omega) (by decide), gd_t, nI_clamp (show p < 2 ^ 31 by omega), e14, un_e]
    unfold upI inI
    rw [if_neg (show ¬ (p + 1) % 2 = 0 by omega), if_pos c]
  · rw [show (p + 1) % 2 = 0 by omega, if_pos (show nI 0 = (0 : Int32) from rfl)]
    unfold fX10_byTurns_j180
    rw [vin_t (show p + 1 < 5 by omega) (by decide), gd_t, nI_clamp (show p + 1 < 2 ^ 31 by omega), un_e, un_e, em, irm2 (p := p) (by omega), show p % 2 = 1 by omega, if_neg (show ¬ nI 1 = (0 : Int32) by decide), vin_t (show p < 5 by omega) (by decide), gd_t, nI_clamp (show p < 2 ^ 31 by omega), e14]
    unfold upI inI
    rw [if_pos (show (p + 1) % 2 = 0 by omega), if_neg c]
    by_cases d : v ≤ σ 14 p
    · rw [if_pos d, if_pos d, un_e]
    · rw [if_neg d, if_neg d, un_e]
