/-! what to carry day by day: in natural numbers, and the reference -/
def crN (R p : Nat) : Nat := if 20 ≤ p then p else if R ≤ p + 1 then 20 else p + 1
/-- the street after i days, a thing D j being carried ahead of day j -/
def cyN (w : Nat → Nat) (t : Nat) : Nat → Nat := if t < w 1 ∧ w (53 + t) = 0 then caN w t else w
def swN (u : Nat → Nat) (D : Nat → Nat) : Nat → (Nat → Nat)
  | 0 => u
  | i + 1 => dayN (cyN (swN u D i) (D i))
theorem cy_lo (w : Nat → Nat) (t j : Nat) (hj : j < 47) : cyN w t j = w j := by
  unfold cyN
  split
  · exact ca_E w t j (by omega) (by omega)
  · rfl
theorem cy_ok {w : Nat → Nat} {t : Nat} (h : okV w) : okV (cyN w t) := by
  unfold cyN
  split
  · rename_i c
    exact ca_ok h c.1
  · exact h
theorem sw_ok {u D : Nat → Nat} (h : okV u) : ∀ {i : Nat}, u 4 + i ≤ 2000 → okV (swN u D i) ∧ swN u D i 4 = u 4 + i ∧ swN u D i 1 = u 1 ∧ swN u D i 0 = u 0
  | 0, _ => ⟨h, rfl, rfl, rfl⟩
  | i + 1, hi => by
    obtain ⟨a, b, c, d⟩ := sw_ok (D := D) h (i := i) (by omega)
    have e4 : cyN (swN u D i) (D i) 4 = swN u D i 4 := cy_lo _ _ 4 (by decide)
    refine ⟨ok_day (cy_ok a) (by omega), ?_, ?_, ?_⟩
    · show dayN _ 4 = _
      rw [day_4, e4, b]
      omega
    · show dayN _ 1 = _
      rw [day_lo (by decide) (by decide), cy_lo _ _ 1 (by decide), c]
    · show dayN _ 0 = _
      rw [day_lo (by decide) (by decide), cy_lo _ _ 0 (by decide), d]
theorem sw_lo {u D : Nat → Nat} (h0 : u 0 ≤ 10) : ∀ i, (∀ j, j < 35 → swN u D i j = dysN i u j) ∧ ∀ j, 35 ≤ j → j < 47 → swN u D i j = u j
  | 0 => ⟨fun _ _ => rfl, fun _ _ _ => rfl⟩
  | i + 1 => by
    obtain ⟨a, b⟩ := sw_lo (D := D) h0 i
    have e : ∀ j, j < 35 → cyN (swN u D i) (D i) j = dysN i u j := fun j hj => by rw [cy_lo _ _ j (by omega), a j hj]
    have hu0 : cyN (swN u D i) (D i) 0 ≤ 10 := by
      rw [e 0 (by decide), dys_lo (by decide) (by decide)]
      exact h0
    refine ⟨fun j hj => dys_agree e hu0 1 j hj, fun j h1 h2 => ?_⟩
    show dayN _ j = _
    rw [day_mid (by omega) (by omega), cy_lo _ _ j h2]
    exact b j h1 h2
/-- the place of one thing, carried on the days of a set -/
def pcq (u : Nat → Nat) (t n s : Nat) : Nat → Nat
  | 0 => whN u t
  | d + 1 => plN (u 0) (lavN (dysN d u)) (u 4 + d) (u (35 + t)) (u (41 + t)) (if d < n ∧ s / 2 ^ d % 2 = 1 then crN (u 0) (pcq u t n s d) else pcq u t n s d)
theorem cy_wh {w : Nat → Nat} {t k : Nat} (h : okV w) (hk : k < w 1) : whN (cyN w t) k = if t = k then crN (w 0) (whN w k) else whN w k := by
  have hw := (wh_is h hk).2.2.1
  unfold cyN
  by_cases e : t = k
  · subst e
    rw [if_pos rfl]
    unfold crN
    by_cases c : w (53 + t) = 0
    · have h20 := hw.mpr c
      rw [wh_0 c] at h20
      rw [if_pos ⟨hk, c⟩, ca_wh c, wh_0 c, if_neg (show ¬ 20 ≤ w (47 + t) by omega)]
    · rw [if_neg (fun q => c q.2), if_pos (Nat.le_of_not_lt (fun q => c (hw.mp q)))]
  · rw [if_neg e]
    have h1 := h.2.2.2.1
    split
    · rename_i c
      have c1 := c.1
      unfold whN
      rw [ca_E w t (53 + k) (by omega) (by omega), ca_E w t (47 + k) (by omega) (by omega)]
    · rfl
theorem sw_wh {u D : Nat → Nat} {k n s : Nat} (h : okV u) (hk : k < u 1) (hs : ∀ d, d < n → (s / 2 ^ d % 2 = 1 ↔ D d = k)) : ∀ i, i ≤ n → u 4 + i ≤ 2000 → whN (swN u D i) k = pcq u k n s i
  | 0, _, _ => rfl
  | i + 1, hi, h4 => by
    have ih := sw_wh (D := D) h hk hs i (by omega) (by omega)
    have h0 := h.2.1
    have h1 := h.2.2.2.1
    obtain ⟨a, b, c, d⟩ := sw_ok (D := D) h (i := i) (by omega)
    obtain ⟨e1, e2⟩ := sw_lo (D := D) h0 i
    have hkk : k < cyN (swN u D i) (D i) 1 := by rw [cy_lo _ _ 1 (by decide), c]; exact hk
    show whN (dayN (cyN (swN u D i) (D i))) k = _
    obtain ⟨p1, p2, p3⟩ := ok_wh (cy_ok (t := D i) a) hkk
    rw [wh_day (cy_ok a) hkk, cy_lo _ _ 0 (by decide), cy_lo _ _ 4 (by decide), cy_lo _ _ (35 + k) (by omega), cy_lo _ _ (41 + k) (by omega), d, b, e2 _ (by omega) (by omega), e2 _ (by omega) (by omega)]
    rw [cy_lo _ _ 0 (by decide), d] at p2
    rw [pl_congr (M := lavN (dysN i u)) h0 (fun q => by have := p2 q; omega) (fun r hr => lav_agree (fun j hj => by rw [cy_lo _ _ j (by omega), e1 j hj]) (by rw [cy_lo _ _ 0 (by decide), d]; exact h0) r hr), cy_wh a (by rw [c]; exact hk), ih, d]
    have hsi := hs i (by omega)
    show _ = plN (u 0) (lavN (dysN i u)) (u 4 + i) (u (35 + k)) (u (41 + k)) (if i < n ∧ s / 2 ^ i % 2 = 1 then crN (u 0) (pcq u k n s i) else pcq u k n s i)
    by_cases q : D i = k
    · rw [if_pos q, if_pos ⟨by omega, hsi.mpr q⟩]
    · rw [if_neg q, if_neg (fun z => q (hsi.mp z.2))]
theorem dys_add (u : Nat → Nat) (a : Nat) : ∀ b, dysN (a + b) u = dysN b (dysN a u)
  | 0 => rfl
  | b + 1 => by
    show dayN (dysN (a + b) u) = dayN (dysN b (dysN a u))
    rw [dys_add u a b]
theorem swd_wh {u D : Nat → Nat} {k n s : Nat} (h : okV u) (hk : k < u 1) (hs : ∀ d, d < n → (s / 2 ^ d % 2 = 1 ↔ D d = k)) : ∀ m, u 4 + (n + m) ≤ 2000 → whN (dysN m (swN u D n)) k = pcq u k n s (n + m)
  | 0, hm => sw_wh h hk hs n (Nat.le_refl _) (by omega)
  | m + 1, hm => by
    have ih := swd_wh (D := D) h hk hs m (by omega)
    have h0 := h.2.1
    have h1 := h.2.2.2.1
    obtain ⟨a, b, c, d⟩ := sw_ok (D := D) h (i := n) (by omega)
    obtain ⟨e1, e2⟩ := sw_lo (D := D) h0 n
    have okm := (ok_dys a (n := m) (by omega)).1
    obtain ⟨p1, p2, p3⟩ := ok_whd (i := m) a (by omega) (show k < swN u D n 1 by rw [c]; exact hk)
    rw [wh_dys a (by omega) (by rw [c]; exact hk), d, b, e2 _ (by omega) (by omega), e2 _ (by omega) (by omega)]
    rw [d] at p2
    have hl : ∀ j, j < 35 → dysN m (swN u D n) j = dysN (n + m) u j := fun j hj => by
      rw [dys_add]
      exact dys_agree e1 (by rw [d]; exact h0) m j hj
    rw [pl_congr (M := lavN (dysN (n + m) u)) h0 (fun q => by have := p2 q; omega) (fun r hr => lav_agree hl (by rw [dys_lo (by decide) (by decide), d]; exact h0) r hr), ih]
    show _ = plN (u 0) (lavN (dysN (n + m) u)) (u 4 + (n + m)) (u (35 + k)) (u (41 + k)) (if n + m < n ∧ s / 2 ^ (n + m) % 2 = 1 then crN (u 0) (pcq u k n s (n + m)) else pcq u k n s (n + m))
    rw [if_neg (fun q => by omega), Nat.add_assoc]
theorem pcq_b {u : Nat → Nat} {k n s : Nat} (h : okV u) (hk : k < u 1) : ∀ d, pcq u k n s d < 50 ∧ (pcq u k n s d < 20 → pcq u k n s d < u 0)
  | 0 => ⟨(ok_wh h hk).1, (ok_wh h hk).2.1⟩
  | d + 1 => by
    obtain ⟨a, b⟩ := pcq_b (n := n) (s := s) h hk d
    have h0 := h.2.1
    have hc : ∀ p, p < 50 → (p < 20 → p < u 0) → crN (u 0) p < 50 ∧ (crN (u 0) p < 20 → crN (u 0) p < u 0) := fun p h1 h2 => by
      unfold crN
      split
      · exact ⟨h1, h2⟩
      · split
        · omega
        · omega
    have hp : ∀ (L : Nat → Nat) (dd so hi p : Nat), p < 50 → (p < 20 → p < u 0) → plN (u 0) L dd so hi p < 50 ∧ (plN (u 0) L dd so hi p < 20 → plN (u 0) L dd so hi p < u 0) := fun L dd so hi p h1 h2 => by
      unfold plN
      split
      · exact ⟨h1, h2⟩
      · split
        · omega
        · split
          · omega
          · omega
    show plN _ _ _ _ _ _ < 50 ∧ (plN _ _ _ _ _ _ < 20 → plN _ _ _ _ _ _ < u 0)
    split
    · exact hp _ _ _ _ _ (hc _ a b).1 (hc _ a b).2
    · exact hp _ _ _ _ _ a b
/-! codes and their digits -/
def dg (B k P i : Nat) : Nat := P / B ^ (k - 1 - i) % B
theorem dg_lo {B k P t i : Nat} (hB : 0 < B) (ht : t < B) (hi : i < k) : dg B (k + 1) (P * B + t) i = dg B k P i := by
  unfold dg
  rw [show k + 1 - 1 - i = (k - 1 - i) + 1 by omega, Nat.pow_succ, Nat.mul_comm (B ^ (k - 1 - i)) B, ← Nat.div_div_eq_div_mul, Nat.mul_comm P B, Nat.mul_add_div hB, Nat.div_eq_of_lt ht, Nat.add_zero]
theorem dg_hi {B k P t : Nat} (ht : t < B) : dg B (k + 1) (P * B + t) k = t := by
  unfold dg
  rw [show k + 1 - 1 - k = 0 by omega, Nat.pow_zero, Nat.div_one, Nat.mul_comm, Nat.mul_add_mod, Nat.mod_eq_of_lt ht]
def stp (S : Nat → Nat) (c : Nat) (A : Nat × Nat) : Nat × Nat := if A.1 ≤ S c then A else (S c, c)
def fo (S : Nat → Nat) (lo : Nat) : Nat → Nat × Nat → Nat × Nat
  | 0, A => A
  | k + 1, A => stp S (lo + k) (fo S lo k A)
theorem fo_add (S : Nat → Nat) (lo a : Nat) (A : Nat × Nat) : ∀ b, fo S lo (a + b) A = fo S (lo + a) b (fo S lo a A)
  | 0 => rfl
  | b + 1 => by
    show stp S (lo + (a + b)) (fo S lo (a + b) A) = stp S (lo + a + b) (fo S (lo + a) b (fo S lo a A))
    rw [fo_add S lo a A b, Nat.add_assoc]
theorem fo_b (S : Nat → Nat) (lo : Nat) (A : Nat × Nat) (hS : ∀ c, S c ≤ 6) : ∀ k, (fo S lo k A).1 ≤ A.1 ∧ ((fo S lo k A).2 < lo + k ∨ (fo S lo k A).2 = A.2)
  | 0 => ⟨Nat.le_refl _, Or.inr rfl⟩
  | k + 1 => by
    obtain ⟨h1, h2⟩ := fo_b S lo A hS k
    show (stp S (lo + k) (fo S lo k A)).1 ≤ A.1 ∧ ((stp S (lo + k) (fo S lo k A)).2 < lo + (k + 1) ∨ (stp S (lo + k) (fo S lo k A)).2 = A.2)
    unfold stp
    split
    · exact ⟨h1, by omega⟩
    · exact ⟨by dsimp only; omega, by left; dsimp only; omega⟩
theorem fo_start (S : Nat → Nat) (hS : ∀ c, S c ≤ 6) : ∀ k, fo S 0 (k + 1) (7, 0) = fo S 0 (k + 1) (99, 0) ∧ (fo S 0 (k + 1) (7, 0)).1 < 7
  | 0 => by
    have h := hS (0 + 0)
    show stp S (0 + 0) (7, 0) = stp S (0 + 0) (99, 0) ∧ (stp S (0 + 0) (7, 0)).1 < 7
    unfold stp
    rw [if_neg (show ¬ ((7, 0) : Nat × Nat).1 ≤ S (0 + 0) by dsimp only; omega), if_neg (show ¬ ((99, 0) : Nat × Nat).1 ≤ S (0 + 0) by dsimp only; omega)]
    exact ⟨rfl, by dsimp only; omega⟩
  | k + 1 => by
    obtain ⟨h1, h2⟩ := fo_start S hS k
    show stp S (0 + (k + 1)) (fo S 0 (k + 1) (7, 0)) = stp S (0 + (k + 1)) (fo S 0 (k + 1) (99, 0)) ∧ (stp S (0 + (k + 1)) (fo S 0 (k + 1) (7, 0))).1 < 7
    rw [h1] at h2 ⊢
    refine ⟨rfl, ?_⟩
    unfold stp
    have h := hS (0 + (k + 1))
    split
    · exact h2
    · dsimp only
      omega
/-- how many are stone by a code -/
def sgN (u : Nat → Nat) (n m c : Nat) : Nat := pop6 (btN (fun t => dysN m (swN u (dg (u 1 + 1) n c) n) (53 + t) == 2) (u 1))
theorem sg_le (u : Nat → Nat) (n m c : Nat) : sgN u n m c ≤ 6 := pop_le _
/-! the reference -/
def pwB (B n i : Nat) : Nat := if i < n then B ^ (n - 1 - i) else 0
theorem pwB_s {B n i : Nat} (hB : 2 ≤ B) (hi : i < n) : pwB B n i / B = pwB B n (i + 1) := by
  unfold pwB
  rw [if_pos hi]
  by_cases c : i + 1 < n
  · rw [if_pos c, show n - 1 - i = (n - 1 - (i + 1)) + 1 by omega, Nat.pow_succ, Nat.mul_div_cancel _ (by omega)]
  · rw [if_neg c, show n - 1 - i = 0 by omega, Nat.pow_zero, Nat.div_eq_of_lt (by omega)]
theorem nz_n {a : Nat} (h : a < 2 ^ 31) (h0 : 0 < a) : nz (nI a) = true := by
  unfold nz
  exact decide_eq_true (nI_n0 h (by omega))
theorem keeps_L {ρ : Sto} {u : Nat → Nat} {n m c : Nat} (hu : ∀ j, j < 59 → ρ 4 j = nI (u j)) (h : okV u) (hn : n ≤ 4) (hc : c < 2 ^ 20) (hd : u 4 + (n + m) ≤ 2000) (hP : (u 1 + 1) ^ 4 < 2 ^ 20) : ∀ (q i f : Nat), i + q = n → q < f → fX10_keeps_L26 f (SM ρ 6 (swN u (dg (u 1 + 1) n c) i)) (nI c) (nI m) (nI (u 1 + 1)) (nI (pwB (u 1 + 1) n i)) = some (SM ρ 6 (dysN m (swN u (dg (u 1 + 1) n c) n)), nI (sgN u n m c)) := by
  have h0 := h.2.1
  have h1 := h.2.2.2.1
  have h11 := h.2.2.1
  intro q
  induction q with
  | zero =>
    intro i f hi hf
    obtain ⟨f, rfl⟩ : ∃ z, f = z + 1 := ⟨f - 1, by omega⟩
    have e : i = n := by omega
    subst e
    obtain ⟨a, b, cc, d⟩ := sw_ok (D := dg (u 1 + 1) i c) h (i := i) (by omega)
    have okm := (ok_dys a (n := m) (by omega)).1
    rw [fX10_keeps_L26, show pwB (u 1 + 1) i i = 0 from if_neg (Nat.lt_irrefl i), if_pos (show nI 0 ≤ (0 : Int32) by decide), goes_by a (by omega), bd_s, stones_M SM6 okm, bd_s, dys_lo (j := 1) (by decide) (by decide), cc]
    rfl
  | succ q ih =>
    intro i f hi hf
    obtain ⟨f, rfl⟩ : ∃ z, f = z + 1 := ⟨f - 1, by omega⟩
    have ih' := ih (i + 1) f (by omega) (by omega)
    obtain ⟨a, b, cc, d⟩ := sw_ok (D := dg (u 1 + 1) n c) h (i := i) (by omega)
    have hp0 : 0 < (u 1 + 1) ^ (n - 1 - i) := Nat.pow_pos (by omega)
    have hp1 : (u 1 + 1) ^ (n - 1 - i) ≤ (u 1 + 1) ^ 4 := Nat.pow_le_pow_right (by omega) (by omega)
    have ep : pwB (u 1 + 1) n i = (u 1 + 1) ^ (n - 1 - i) := if_pos (by omega)
    have ed : c / (u 1 + 1) ^ (n - 1 - i) % (u 1 + 1) = dg (u 1 + 1) n c i := rfl
    have hdg : dg (u 1 + 1) n c i < u 1 + 1 := Nat.mod_lt _ (by omega)
    have es : pwB (u 1 + 1) n i / (u 1 + 1) = pwB (u 1 + 1) n (i + 1) := pwB_s (by omega) (by omega)
    have hcd : c / (u 1 + 1) ^ (n - 1 - i) ≤ c := Nat.div_le_self _ _
    rw [ep] at es
    have e41 : SM ρ 6 (swN u (dg (u 1 + 1) n c) i) 4 1 = nI (u 1) := by rw [SM_ne (by decide)]; exact hu 1 (by decide)
    rw [fX10_keeps_L26, ep, if_neg (nI_nle hp0 (by omega)), nz_n (by omega) hp0, gd_t, nz_n (by omega) (by omega), gd_t, pk_div (by omega) hp0 (by omega), irm_n (by omega) (by omega) (by omega), un_e, ed, e41, pk_div (by omega) (by omega) (by omega), es]
    have esw : swN u (dg (u 1 + 1) n c) (i + 1) = dayN (cyN (swN u (dg (u 1 + 1) n c) i) (dg (u 1 + 1) n c i)) := rfl
    rw [esw] at ih'
    unfold cyN at ih'
    by_cases t : dg (u 1 + 1) n c i < u 1
    · rw [if_neg (nI_ge t (by omega)), n32_53, nI_add, vin_t (by omega) (by decide), gd_t, nI_clamp (by omega), SM_at (by omega)]
      obtain ⟨a1, a2, a3, a4, a5, a6⟩ := a.2.2.2.2.2.2.2.2.2.2.2 (dg (u 1 + 1) n c i) (by rw [cc]; exact t)
      rw [d] at a5
      by_cases s : swN u (dg (u 1 + 1) n c) i (53 + dg (u 1 + 1) n c i) = 0
      · rw [if_pos ⟨by rw [cc]; exact t, s⟩] at ih'
        have hg := goes_M (σ := ρ) (a := 6) (k := dg (u 1 + 1) n c i) (d := 1) (u := swN u (dg (u 1 + 1) n c) i) (by omega) (by omega) (by omega) (by omega)
        have hg : fX10_goes (SM ρ 6 (swN u (dg (u 1 + 1) n c) i)) 6 (nI (dg (u 1 + 1) n c i)) (1 : Int32) = some (SM ρ 6 (caN (swN u (dg (u 1 + 1) n c) i) (dg (u 1 + 1) n c i))) := hg
        rw [if_pos (show nI (swN u (dg (u 1 + 1) n c) i (53 + dg (u 1 + 1) n c i)) = (0 : Int32) by rw [s]; rfl), hg, bd_s, passes_M (ca_ok a (by rw [cc]; exact t)), bd_s, un_e]
        exact ih'
      · rw [if_neg (fun z => s z.2)] at ih'
        have hg := goes_M (σ := ρ) (a := 6) (k := dg (u 1 + 1) n c i) (d := 0) (u := swN u (dg (u 1 + 1) n c) i) (by omega) (by omega) (by omega) (by omega)
        rw [if_pos (by omega), Nat.add_zero (swN u (dg (u 1 + 1) n c) i (47 + dg (u 1 + 1) n c i)), vu_id] at hg
        have hg : fX10_goes (SM ρ 6 (swN u (dg (u 1 + 1) n c) i)) 6 (nI (dg (u 1 + 1) n c i)) (0 : Int32) = some (SM ρ 6 (swN u (dg (u 1 + 1) n c) i)) := hg
        rw [if_neg (nI_n0 (by omega) s), hg, bd_s, passes_M a, bd_s, un_e]
        exact ih'
    · rw [if_pos (nI_le (by omega) (by omega)), passes_M a, bd_s, un_e]
      rw [if_neg (fun z => t (by have := z.1; rw [cc] at this; exact this))] at ih'
      exact ih'
theorem power_L {B e : Nat} (hB : B ≤ 7) (he : e ≤ 4) : ∀ (q i f : Nat), i + q = e → q < f → fX10_power_L4 f (nI B) (nI e) (nI (B ^ i)) (nI i) = some (nI (B ^ e)) := by
  intro q
  induction q with
  | zero =>
    intro i f hi hf
    obtain ⟨f, rfl⟩ : ∃ z, f = z + 1 := ⟨f - 1, by omega⟩
    rw [fX10_power_L4, if_pos (nI_le (by omega) (by omega)), show i = e by omega]
  | succ q ih =>
    intro i f hi hf
    obtain ⟨f, rfl⟩ : ∃ z, f = z + 1 := ⟨f - 1, by omega⟩
    rw [fX10_power_L4, if_neg (nI_ge (by omega) (by omega)), un_e, un_e, pk_mul, n32_1, nI_add, ← Nat.pow_succ]
    exact ih (i + 1) f (by omega) (by omega)
theorem power_M {B e : Nat} (hB : B ≤ 7) (he : e ≤ 4) : fX10_power (nI B) (nI e) = some (nI (B ^ e)) := by
  unfold fX10_power
  exact power_L hB he e 0 fu (by omega) (fu_gt (by omega))
theorem b7 {B e : Nat} (hB : B ≤ 7) (he : e ≤ 4) : B ^ e ≤ 2401 := by
  by_cases c : B = 0
  · subst c
    by_cases c2 : e = 0
    · subst c2
      decide
    · rw [Nat.zero_pow (by omega)]
      decide
  · exact Nat.le_trans (Nat.pow_le_pow_left hB e) (Nat.le_trans (Nat.pow_le_pow_right (by decide) he) (by decide))
theorem keeps_M {ρ : Sto} {u : Nat → Nat} {n m c : Nat} (hu : ∀ j, j < 59 → ρ 4 j = nI (u j)) (h : okV u) (hn1 : 1 ≤ n) (hn : n ≤ 4) (hc : c < 2 ^ 20) (hd : u 4 + (n + m) ≤ 2000) : fX10_keeps ρ (nI c) (nI n) (nI m) = some (SM ρ 6 (dysN m (swN u (dg (u 1 + 1) n c) n)), nI (sgN u n m c)) := by
  have h1 := h.2.2.2.1
  have h11 := h.2.2.1
  have hb4 := b7 (B := u 1 + 1) (e := 4) (by omega) (by omega)
  have hbn := b7 (B := u 1 + 1) (e := n) (by omega) hn
  have hk := keeps_L (ρ := ρ) (n := n) (m := m) (c := c) hu h hn hc hd (by omega) n 0 fu (by omega) (fu_gt (by omega))
  have e0 : pwB (u 1 + 1) n 0 = (u 1 + 1) ^ n / (u 1 + 1) := by
    unfold pwB
    rw [if_pos (by omega), show n = (n - 1) + 1 by omega, Nat.pow_succ, Nat.mul_div_cancel _ (by omega)]
    rfl
  rw [e0] at hk
  unfold fX10_keeps
  rw [hu 1 (by decide), n32_1, nI_add, un_e, aside_0 hu h, bd_s, power_M (by omega) hn, bd_s, nz_n (by omega) (by omega), gd_t, pk_div (by omega) (by omega) (by omega), un_e]
  exact hk
theorem carries_LM {σm : Sto} {u : Nat → Nat} {n m : Nat} {x3 : Int32} (kk : Sto → Int32 → Int32 → Int32 → Int32 → Int32 → Option (Sto × Int32)) (hu : ∀ j, j < 59 → σm 4 j = nI (u j)) (h : okV u) (hn1 : 1 ≤ n) (hn : n ≤ 4) (hd : u 4 + (n + m) ≤ 2000) (A : Nat × Nat) (hA : A.1 ≤ 99 ∧ A.2 < 2 ^ 20) : ∀ (q c f : Nat) (ρ : Sto), c + q = (u 1 + 1) ^ n → q < f → eM ρ σm → ∃ ρ', fX10_carries_L62 kk f ρ (nI n) (nI m) x3 (nI (u 1 + 1)) (nI (fo (sgN u n m) 0 c A).1) (nI (fo (sgN u n m) 0 c A).2) (nI c) = kk ρ' (nI n) x3 (nI (u 1 + 1)) (nI (fo (sgN u n m) 0 ((u 1 + 1) ^ n) A).1) (nI (fo (sgN u n m) 0 ((u 1 + 1) ^ n) A).2) ∧ eM ρ' σm := by
  have h1 := h.2.2.2.1
  have hbn := b7 (B := u 1 + 1) (e := n) (by omega) hn
  intro q
  induction q with
  | zero =>
    intro c f ρ hc hf hE
    obtain ⟨f, rfl⟩ : ∃ z, f = z + 1 := ⟨f - 1, by omega⟩
    refine ⟨ρ, ?_, hE⟩
    rw [fX10_carries_L62, power_M (by omega) hn, bd_s, if_pos (nI_le (by omega) (by omega)), show c = (u 1 + 1) ^ n by omega]
  | succ q ih =>
    intro c f ρ hc hf hE
    obtain ⟨f, rfl⟩ : ∃ z, f = z + 1 := ⟨f - 1, by omega⟩
    have huρ : ∀ j, j < 59 → ρ 4 j = nI (u j) := fun j hj => by rw [hE 4 (by decide)]; exact hu j hj
    have hs := sg_le u n m c
    obtain ⟨g1', g2'⟩ := fo_b (sgN u n m) 0 A (sg_le u n m) c
    obtain ⟨ρ', r1, r2⟩ := ih (c + 1) f (SM ρ 6 (dysN m (swN u (dg (u 1 + 1) n c) n))) (by omega) (by omega) (eM_SM hE)
    refine ⟨ρ', ?_, r2⟩
    have ef : fo (sgN u n m) 0 (c + 1) A = stp (sgN u n m) (0 + c) (fo (sgN u n m) 0 c A) := rfl
    rw [← r1, ef, Nat.zero_add, fX10_carries_L62, power_M (by omega) hn, bd_s, if_neg (nI_ge (by omega) (by omega)), keeps_M huρ h hn1 hn (by omega) hd, bd_s]
    dsimp only
    rw [less_M (by omega) (by omega), un_e, un_e, n32_1, nI_add]
    unfold stp
    by_cases t : (fo (sgN u n m) 0 c A).1 ≤ sgN u n m c
    · rw [if_pos (nI_le t (by omega)), if_pos t, Nat.min_eq_left t]
    · rw [if_neg (nI_ge (by omega) (by omega)), if_neg t, Nat.min_eq_right (by omega), un_e, un_e]
