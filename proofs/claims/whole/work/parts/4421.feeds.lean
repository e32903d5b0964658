/-! what is told day by day: feeds -/
theorem fitl_S {σ : Sto} {w : Nat → Nat} {r R i nd : Nat} (hw : okV w) (hr : r < 10) (hd : w 4 + nd ≤ 2000) (hR : 40 * R + i + nd ≤ 320) (hn12 : nd ≤ 12) : ∀ (m d n : Nat), d + m = nd → m < n → fX10_fits_L6 n (SM σ 6 (dysN d w)) (-1 : Int32) (nI r) (nI R) (nI i) (nI nd) (nI (b1 (okH (fun d => σ 3 (40 * R + i + d)) (fun d => dysN d w (15 + r)) d))) (nI d) = some (SM σ 6 (dysN nd w), nI (b1 (okH (fun d => σ 3 (40 * R + i + d)) (fun d => dysN d w (15 + r)) nd))) := by
  intro m
  induction m with
  | zero =>
    intro d n hd2 hn
    obtain ⟨n, rfl⟩ : ∃ q, n = q + 1 := ⟨n - 1, by omega⟩
    rw [fX10_fits_L6, if_pos (nI_le (by omega) (by omega)), show d = nd by omega]
    cases okH (fun d => σ 3 (40 * R + i + d)) (fun d => dysN d w (15 + r)) nd
    · rfl
    · rfl
  | succ m ih =>
    intro d n hd2 hn
    obtain ⟨n, rfl⟩ : ∃ q, n = q + 1 := ⟨n - 1, by omega⟩
    have ih' := ih (d + 1) n (by omega) (by omega)
    have h3 : SM σ 6 (dysN (d + 1) w) 3 = σ 3 := SM_ne (by decide)
    rw [fX10_fits_L6, if_neg (nI_ge (by omega) (by omega)), passes_M (ok_dys hw (by omega)).1, bd_s]
    show (if nI (b1 (okH (fun d => σ 3 (40 * R + i + d)) (fun d => dysN d w (15 + r)) d)) = (0 : Int32) then _ else _) = _
    cases hc : okH (fun d => σ 3 (40 * R + i + d)) (fun d => dysN d w (15 + r)) d with
    | false =>
      have e2 : okH (fun d => σ 3 (40 * R + i + d)) (fun d => dysN d w (15 + r)) (d + 1) = false := by
        show (okH (fun d => σ 3 (40 * R + i + d)) (fun d => dysN d w (15 + r)) d && _) = false
        rw [hc]
        rfl
      rw [e2] at ih'
      rw [if_pos (show nI (b1 false) = (0 : Int32) by decide)]
      simp only [un]
      rw [n32_1, nI_add]
      exact ih'
    | true =>
      rw [if_neg (show ¬ nI (b1 true) = (0 : Int32) by decide), n32_40, pk_mul, nI_add, nI_add, vin_t (by omega) (by decide), gd_t, if_neg (show ¬ (0 : Int32) ≤ (-1 : Int32) by decide), show dayN (dysN d w) = dysN (d + 1) w from rfl, n32_15, nI_add, vin_t (show 15 + r < 59 by omega) (by decide), gd_t, nI_clamp (show 40 * R + i + d < 2 ^ 31 by omega), nI_clamp (show 15 + r < 2 ^ 31 by omega), h3, SM_at (show 15 + r < 59 by omega)]
      unfold fX10_fits_j64
      simp only [un]
      by_cases c : σ 3 (40 * R + i + d) = nI (dysN (d + 1) w (15 + r))
      · rw [if_pos c, show nI d + (1 : Int32) = nI (d + 1) from nI_add d 1]
        rw [okH_s (H := fun d => σ 3 (40 * R + i + d)) (q := fun d => dysN d w (15 + r)) hc c] at ih'
        exact ih'
      · rw [if_neg c, show nI d + (1 : Int32) = nI (d + 1) from nI_add d 1]
        rw [okH_no (H := fun d => σ 3 (40 * R + i + d)) (q := fun d => dysN d w (15 + r)) c (Nat.lt_succ_self d)] at ih'
        exact ih'
theorem fitl_M {σ : Sto} {w : Nat → Nat} {r R i nd : Nat} (hw : okV w) (hr : r < 10) (hd : w 4 + nd ≤ 2000) (hR : 40 * R + i + nd ≤ 320) (hn12 : nd ≤ 12) : fX10_fits (SM σ 6 w) (-1 : Int32) (nI r) (nI R) (nI i) (nI nd) = some (SM σ 6 (dysN nd w), nI (b1 (okH (fun d => σ 3 (40 * R + i + d)) (fun d => dysN d w (15 + r)) nd))) := fitl_S hw hr hd hR hn12 nd 0 fu (by omega) (fu_gt (by omega))
theorem liesH_X {σ : Sto} {w : Nat → Nat} {r nd : Nat} {H : Nat → Int32} (ht : TL σ 11 w nd) (hr : r < w 0) (h0 : w 0 ≤ 10) (hn12 : nd ≤ 12) (hh : HR σ H nd) : ∀ (m d n : Nat), d + m = nd → m < n → okH H (fun d => dysN d w (15 + r)) d = true → fX5_liesAsHeard_L17 n σ (nI r) (nI d) = some (σ, nI (b1 (okH H (fun d => dysN d w (15 + r)) nd))) := by
  intro m
  induction m with
  | zero =>
    intro d n hd2 hn hok
    obtain ⟨n, rfl⟩ : ∃ q, n = q + 1 := ⟨n - 1, by omega⟩
    rw [fX5_liesAsHeard_L17, hh.1, if_pos (nI_le (by omega) (by omega)), show nd = d by omega, hok]
    rfl
  | succ m ih =>
    intro d n hd2 hn hok
    obtain ⟨n, rfl⟩ : ∃ q, n = q + 1 := ⟨n - 1, by omega⟩
    rw [fX5_liesAsHeard_L17, hh.1, if_neg (nI_ge (by omega) (by omega)), n32_1, nI_add, lavaIn_X ht (by omega) hr h0 (by omega) (by show nd * 10 + 10 ≤ 610; omega) (by decide), bd_s, vin_t (by omega) (by decide), gd_t, nI_clamp (by omega), hh.2 d (by omega)]
    by_cases c : nI (dysN (d + 1) w (15 + r)) = H d
    · rw [if_pos c]
      simp only [un]
      exact ih (d + 1) n (by omega) (by omega) (okH_s (q := fun d => dysN d w (15 + r)) hok c.symm)
    · rw [if_neg c, okH_no (q := fun d => dysN d w (15 + r)) (fun q => c q.symm) (show d < nd by omega)]
      rfl
theorem lies_H {σ : Sto} {w : Nat → Nat} {r nd : Nat} {H : Nat → Int32} (hx : VX σ 260 w) (h : okV w) (hd : w 4 + nd ≤ 2000) (hr : r < w 0) (hn12 : nd ≤ 12) (h60 : σ 11 0 = nI 60) (hh : HR σ H nd) : ∃ σ', fX5_liesAsHeard σ (nI r) = some (σ', nI (b1 (okH H (fun d => dysN d w (15 + r)) nd))) ∧ ∀ k, k ≠ 12 → σ' k = σ k := by
  obtain ⟨τ, t1, t2, t3⟩ := tell_X (f := 11) (v := 260) (d := nd) (most := 60) (by decide) (by decide) hx h hd h60 (by omega) (by decide) (by decide)
  refine ⟨τ, ?_, t3⟩
  unfold fX5_liesAsHeard
  rw [hh.1, t1, bd_s]
  exact liesH_X t2 hr h.2.1 hn12 ⟨by rw [t3 10 (by decide)]; exact hh.1, fun d hd => by rw [t3 13 (by decide)]; exact hh.2 d hd⟩ nd 0 fu (by omega) (fu_gt (by omega)) rfl
theorem hr_bt {p : Nat → Bool} {x : Nat} (hx : x < 31) : hrN (nI (btN p x)) (p x) x = nI (btN p (x + 1)) := by
  unfold hrN
  cases h : p x
  · rw [if_neg (by decide), or0, bt_no p x h]
  · rw [if_pos rfl, n32_1, shl1_n hx, or_n, bt_or p x h]
theorem VX_fl {σ : Sto} {v r x : Nat} {u : Nat → Nat} (hx : VX σ v u) (hr : r < 10) (h1 : u 1 ≤ 6) (h0 : u 0 ≤ 10) : VX (up σ (v + 1) r (nI x)) v (va_up u (5 + r) x) := by
  obtain ⟨x1, x2, x3⟩ := hx
  refine ⟨fun i hi => ?_, fun q hq => ?_, fun k hk => ?_⟩
  · rw [up_k (by omega), vu_ne (by omega), x1 i hi]
  · rw [vu_ne (by omega)] at hq
    obtain ⟨y1, y2, y3⟩ := x2 q hq
    refine ⟨?_, by rw [up_k (by omega), vu_ne (by omega)]; exact y2, by rw [up_k (by omega), vu_ne (by omega)]; exact y3⟩
    by_cases e : q = r
    · subst e
      rw [up_i, vu_self]
    · rw [up_j e, vu_ne (by omega)]
      exact y1
  · rw [vu_ne (by omega)] at hk
    rw [up_k (by omega), up_k (by omega), up_k (by omega), up_k (by omega), vu_ne (by omega), vu_ne (by omega), vu_ne (by omega), wh_a (by omega)]
    exact x3 k hk
def flP (u : Nat → Nat) (H : Nat → Int32) (nd r j : Nat) : Nat → Bool := fun x => okH H (fun d => dysN d (va_up u j x) (15 + r)) nd
theorem floors_L {u : Nat → Nat} {r nd : Nat} {H : Nat → Int32} (h : okV u) (hr : r < u 0) (hd : u 4 + nd ≤ 2000) (hn12 : nd ≤ 12) : ∀ (m x n x0 : Nat) (τ : Sto), x + m = 10 → m < n → VX τ 260 (va_up u (5 + r) x0) → τ 11 0 = nI 60 → HR τ H nd → ∃ τ', fX5_floorsThatFit_L13 36 n τ (nI r) (nI (btN (flP u H nd r (5 + r)) x)) (nI x) = some (τ', nI (btN (flP u H nd r (5 + r)) 10)) ∧ ∀ q, q ≠ 12 → q < 260 → τ' q = τ q := by
  have h0 := h.2.1
  have h1 := h.2.2.2.1
  intro m
  induction m with
  | zero =>
    intro x n x0 τ hx hn hV h60 hh
    obtain ⟨n, rfl⟩ : ∃ q, n = q + 1 := ⟨n - 1, by omega⟩
    exact ⟨τ, by rw [fX5_floorsThatFit_L13, n32_9, if_pos (nI_lt (by omega) (by omega)), show x = 10 by omega], fun _ _ _ => rfl⟩
  | succ m ih =>
    intro x n x0 τ hx hn hV h60 hh
    obtain ⟨n, rfl⟩ : ∃ q, n = q + 1 := ⟨n - 1, by omega⟩
    have okw : okV (va_up u (5 + r) x) := okV_a h (by omega)
    have hV2 : VX (up τ 261 r (nI x)) 260 (va_up u (5 + r) x) := by
      have := VX_fl (x := x) hV (show r < 10 by omega) (by rw [vu_ne (by omega)]; exact h1) (by rw [vu_ne (by omega)]; exact h0)
      rw [vu_vu] at this
      exact this
    obtain ⟨τ1, t1, t2⟩ := lies_H (r := r) (nd := nd) (H := H) hV2 okw (by rw [vu_ne (by omega)]; exact hd) (by rw [vu_ne (by omega)]; exact hr) hn12 (by rw [up_k (by decide)]; exact h60) ⟨by rw [up_k (by decide)]; exact hh.1, fun d hd => by rw [up_k (by decide)]; exact hh.2 d hd⟩
    obtain ⟨τ', r1, r2⟩ := ih (x + 1) n x τ1 (by omega) (by omega) (VX_fr hV2 (fun q _ _ => t2 q (by omega))) (by rw [t2 11 (by decide), up_k (by decide)]; exact h60) ⟨by rw [t2 10 (by decide), up_k (by decide)]; exact hh.1, fun d hd => by rw [t2 13 (by decide), up_k (by decide)]; exact hh.2 d hd⟩
    refine ⟨τ', ?_, fun q z1 z2 => by rw [r2 q z1 z2, t2 q z1, up_k (by omega)]⟩
    rw [← r1, ← hr_bt (p := flP u H nd r (5 + r)) (show x < 31 by omega), fX5_floorsThatFit_L13, n32_9, if_neg (nI_nlt (by omega) (by omega)), vin_t (by omega) (by decide), gd_t, nI_clamp (by omega)]
    simp only [un]
    rw [t1, bd_s]
    show (if nI (b1 (flP u H nd r (5 + r) x)) = (0 : Int32) then _ else _) = _
    unfold hrN
    cases flP u H nd r (5 + r) x
    · rw [if_pos (show nI (b1 false) = (0 : Int32) by decide), if_neg (by decide), show nI x + (1 : Int32) = nI (x + 1) from nI_add x 1]
    · rw [if_neg (show ¬ nI (b1 true) = (0 : Int32) by decide), if_pos rfl, show nI x + (1 : Int32) = nI (x + 1) from nI_add x 1]
theorem feeds_L {u : Nat → Nat} {r nd : Nat} {H : Nat → Int32} (h : okV u) (hr : r < u 0) (hd : u 4 + nd ≤ 2000) (hn12 : nd ≤ 12) : ∀ (m x n x0 : Nat) (τ : Sto), x + m = 21 → m < n → VX τ 260 (va_up u 2 x0) → τ 11 0 = nI 60 → HR τ H nd → ∃ τ', fX5_feedsThatFit_L13 36 n τ (nI r) (nI (btN (flP u H nd r 2) x)) (nI x) = some (τ', nI (btN (flP u H nd r 2) 21)) ∧ ∀ q, q ≠ 12 → q < 260 → τ' q = τ q := by
  have h0 := h.2.1
  have h1 := h.2.2.2.1
  intro m
  induction m with
  | zero =>
    intro x n x0 τ hx hn hV h60 hh
    obtain ⟨n, rfl⟩ : ∃ q, n = q + 1 := ⟨n - 1, by omega⟩
    exact ⟨τ, by rw [fX5_feedsThatFit_L13, n32_20, if_pos (nI_lt (by omega) (by omega)), show x = 21 by omega], fun _ _ _ => rfl⟩
  | succ m ih =>
    intro x n x0 τ hx hn hV h60 hh
    obtain ⟨n, rfl⟩ : ∃ q, n = q + 1 := ⟨n - 1, by omega⟩
    have okw : okV (va_up u 2 x) := okV_a h (by omega)
    have hV2 : VX (up τ 260 2 (nI x)) 260 (va_up u 2 x) := by
      have := VX_feed (x := x) hV
      rw [vu_vu] at this
      exact this
    obtain ⟨τ1, t1, t2⟩ := lies_H (r := r) (nd := nd) (H := H) hV2 okw (by rw [vu_ne (by omega)]; exact hd) (by rw [vu_ne (by omega)]; exact hr) hn12 (by rw [up_k (by decide)]; exact h60) ⟨by rw [up_k (by decide)]; exact hh.1, fun d hd => by rw [up_k (by decide)]; exact hh.2 d hd⟩
    obtain ⟨τ', r1, r2⟩ := ih (x + 1) n x τ1 (by omega) (by omega) (VX_fr hV2 (fun q _ _ => t2 q (by omega))) (by rw [t2 11 (by decide), up_k (by decide)]; exact h60) ⟨by rw [t2 10 (by decide), up_k (by decide)]; exact hh.1, fun d hd => by rw [t2 13 (by decide), up_k (by decide)]; exact hh.2 d hd⟩
    refine ⟨τ', ?_, fun q z1 z2 => by rw [r2 q z1 z2, t2 q z1, up_k (by omega)]⟩
    rw [← r1, ← hr_bt (p := flP u H nd r 2) (show x < 31 by omega), fX5_feedsThatFit_L13, n32_20, if_neg (nI_nlt (by omega) (by omega))]
    simp only [un]
    rw [t1, bd_s]
    show (if nI (b1 (flP u H nd r 2 x)) = (0 : Int32) then _ else _) = _
    unfold hrN
    cases flP u H nd r 2 x
    · rw [if_pos (show nI (b1 false) = (0 : Int32) by decide), if_neg (by decide), show nI x + (1 : Int32) = nI (x + 1) from nI_add x 1]
    · rw [if_neg (show ¬ nI (b1 true) = (0 : Int32) by decide), if_pos rfl, show nI x + (1 : Int32) = nI (x + 1) from nI_add x 1]
/-- the reference's loop: z = 0 floors, else feeds -/
def fjN (z r : Nat) : Nat := if z = 0 then 5 + r else 2
def ftN (z : Nat) : Nat := if z = 0 then 9 else 20
theorem feeds_LM {σm : Sto} {u : Nat → Nat} {r R i nd z : Nat} (kk : Sto → Int32 → Int32 → Option (Sto × Int32)) (hu : ∀ q, q < 59 → σm 4 q = nI (u q)) (h : okV u) (hr : r < u 0) (hz : z ≤ 2) (hd : u 4 + nd ≤ 2000) (hR : 40 * R + i + nd ≤ 320) (hn12 : nd ≤ 12) : ∀ (m x n : Nat) (ρ : Sto), x + m = ftN z + 1 → m < n → eM ρ σm → ∃ ρ', fX10_feeds_L68 kk n ρ (nI r) (nI z) (nI R) (nI i) (nI nd) (nI (btN (flP u (fun d => σm 3 (40 * R + i + d)) nd r (fjN z r)) x)) (nI x) = kk ρ' (nI z) (nI (btN (flP u (fun d => σm 3 (40 * R + i + d)) nd r (fjN z r)) (ftN z + 1))) ∧ eM ρ' σm := by
  have h0 := h.2.1
  have htop : ftN z ≤ 20 := by
    unfold ftN
    split <;> omega
  have hz0 : nI z = (0 : Int32) ↔ z = 0 := nI_eq (by omega) (by decide)
  have htm : ∀ (n : Nat) (ρ : Sto) (acc : Int32) (x : Nat), fX10_feeds_L68 kk (n + 1) ρ (nI r) (nI z) (nI R) (nI i) (nI nd) acc (nI x) = fX10_feeds_j81 kk (fX10_feeds_L68 kk n) ρ (nI r) (nI z) (nI R) (nI i) (nI nd) acc (nI x) (nI x) (nI (ftN z)) := by
    intro n ρ acc x
    rw [fX10_feeds_L68]
    unfold ftN
    by_cases c : z = 0
    · rw [if_pos (hz0.mpr c), if_pos c]
      rfl
    · rw [if_neg (fun q => c (hz0.mp q)), if_neg c]
      rfl
  intro m
  induction m with
  | zero =>
    intro x n ρ hx hn hE
    obtain ⟨n, rfl⟩ : ∃ q, n = q + 1 := ⟨n - 1, by omega⟩
    refine ⟨ρ, ?_, hE⟩
    rw [htm]
    unfold fX10_feeds_j81
    rw [if_pos (nI_lt (by omega) (by omega)), show x = ftN z + 1 by omega]
  | succ m ih =>
    intro x n ρ hx hn hE
    obtain ⟨n, rfl⟩ : ∃ q, n = q + 1 := ⟨n - 1, by omega⟩
    have hjx : fjN z r = 2 ∧ x ≤ 20 ∨ (5 ≤ fjN z r ∧ fjN z r < 15 ∨ 25 ≤ fjN z r ∧ fjN z r < 35) ∧ x ≤ 9 := by
      unfold ftN at hx
      unfold fjN
      by_cases c : z = 0
      · rw [if_pos c] at hx ⊢
        omega
      · rw [if_neg c] at hx ⊢
        omega
    have okw : okV (va_up u (fjN z r) x) := okV_a h hjx
    have huρ : ∀ q, q < 59 → ρ 4 q = nI (u q) := fun q hq => by rw [hE 4 (by decide)]; exact hu q hq
    obtain ⟨ρ', r1, r2⟩ := ih (x + 1) n (SM ρ 6 (dysN nd (va_up u (fjN z r) x))) (by omega) (by omega) (eM_SM hE)
    refine ⟨ρ', ?_, r2⟩
    have hfit := fitl_M (σ := ρ) (w := va_up u (fjN z r) x) (r := r) (R := R) (i := i) (nd := nd) okw (by omega) (by rw [vu_ne (by omega)]; exact hd) hR hn12
    have e3 : (fun d => ρ 3 (40 * R + i + d)) = (fun d => σm 3 (40 * R + i + d)) := by
      funext d
      rw [hE 3 (by decide)]
    rw [e3] at hfit
    have h104 : fX10_feeds_j104 (fX10_feeds_L68 kk n) (SM ρ 6 u) (nI r) (nI z) (nI R) (nI i) (nI nd) (nI (btN (flP u (fun d => σm 3 (40 * R + i + d)) nd r (fjN z r)) x)) (nI x) (nI (fjN z r)) = fX10_feeds_L68 kk n (SM ρ 6 (dysN nd (va_up u (fjN z r) x))) (nI r) (nI z) (nI R) (nI i) (nI nd) (nI (btN (flP u (fun d => σm 3 (40 * R + i + d)) nd r (fjN z r)) (x + 1))) (nI (x + 1)) := by
      unfold fX10_feeds_j104
      rw [vin_t (by omega) (by decide), gd_t, nI_clamp (by omega)]
      simp only [un]
      rw [SM_up (by omega), hfit, bd_s, ← hr_bt (p := flP u (fun d => σm 3 (40 * R + i + d)) nd r (fjN z r)) (show x < 31 by omega)]
      show (if nI (b1 (flP u (fun d => σm 3 (40 * R + i + d)) nd r (fjN z r) x)) = (0 : Int32) then _ else _) = _
      unfold hrN
      cases flP u (fun d => σm 3 (40 * R + i + d)) nd r (fjN z r) x
      · rw [if_pos (show nI (b1 false) = (0 : Int32) by decide), if_neg (by decide), show nI x + (1 : Int32) = nI (x + 1) from nI_add x 1]
      · rw [if_neg (show ¬ nI (b1 true) = (0 : Int32) by decide), if_pos rfl, show nI x + (1 : Int32) = nI (x + 1) from nI_add x 1]
    rw [htm, ← r1, ← h104]
    unfold fX10_feeds_j81
    rw [if_neg (nI_nlt (by omega) (by omega)), aside_0 huρ h, bd_s]
    by_cases c : z = 0
    · rw [if_pos (hz0.mpr c), show fjN z r = 5 + r from if_pos c, show (5 : Int32) + nI r = nI (5 + r) from nI_add 5 r]
    · rw [if_neg (fun q => c (hz0.mp q)), show fjN z r = 2 from if_neg c]
      rfl
theorem low_LM {σ : Sto} {b t : Nat} {x2 : Int32} (kk : Sto → Int32 → Int32 → Int32 → Option (Sto × Int32)) (hb : b < 2 ^ 24) (h0 : 0 < b) (ht : t < 24) (h1 : ∀ j, j < t → b / 2 ^ j % 2 = 0) (h2 : b / 2 ^ t % 2 = 1) : ∀ (m j n : Nat), j + m = t → m < n → fX10_feeds_L143 kk n σ x2 (nI b) (nI j) = kk σ x2 (nI b) (nI t) := by
  intro m
  induction m with
  | zero =>
    intro j n hj hn
    obtain ⟨n, rfl⟩ : ∃ q, n = q + 1 := ⟨n - 1, by omega⟩
    rw [fX10_feeds_L143, if_neg (nI_n0 (by omega) (by omega)), has_n (by omega) (by omega), show j = t by omega, h2, if_neg (by decide)]
  | succ m ih =>
    intro j n hj hn
    obtain ⟨n, rfl⟩ : ∃ q, n = q + 1 := ⟨n - 1, by omega⟩
    rw [fX10_feeds_L143, if_neg (nI_n0 (by omega) (by omega)), has_n (by omega) (by omega), h1 j (by omega), if_pos (show nI 0 = (0 : Int32) from rfl)]
    simp only [un]
    rw [n32_1, nI_add]
    exact ih (j + 1) n (by omega) (by omega)
theorem low_0 {σ : Sto} {x2 x8 : Int32} (kk : Sto → Int32 → Int32 → Int32 → Option (Sto × Int32)) (n : Nat) : fX10_feeds_L143 kk (n + 1) σ x2 (nI 0) x8 = kk σ x2 (nI 0) x8 := by
  rw [fX10_feeds_L143, if_pos (show nI 0 = (0 : Int32) from rfl)]
theorem low_J {ρ : Sto} {z b : Nat} (hb24 : b < 2 ^ 24) : ∃ t, fX10_feeds_L143 fX10_feeds_j164 fu ρ (nI z) (nI b) (nI 0) = fX10_feeds_j164 ρ (nI z) (nI b) (nI t) ∧ (0 < b → fJ6_numberOfTrailingZeros_0f7a4 (nI b) = nI t) := by
  by_cases c : b = 0
  · subst c
    exact ⟨0, low_0 fX10_feeds_j164 99999, fun q => by omega⟩
  · obtain ⟨t, q1, q2, q3, q4⟩ := tz_ex (k := 24) (x := b) (by omega) hb24
    exact ⟨t, low_LM _ hb24 (by omega) q1 q2 q3 t 0 fu (by omega) (fu_gt (by omega)), fun _ => tz_X hb24 (by omega) q1 q4⟩
theorem feeds_F0 {τ ρ : Sto} (b t : Nat) (h : Inv τ ρ) : ∃ qx qm, (bd (some (τ, nI b)) fun q_13 => un (fX9_unfound q_13.1 q_13.2) fun q_14 => some (q_14.1, q_14.2)) = some qx ∧ fX10_feeds_j164 ρ (nI 0) (nI b) (nI t) = some qm ∧ qx.2 = qm.2 ∧ Inv qx.1 qm.1 := by
  unfold fX10_feeds_j164
  rw [bd_s, if_pos (show nI 0 = (0 : Int32) by decide)]
  exact mk2 (τx := up τ 0 9 0) (τm := up ρ 0 3 0) rfl rfl rfl (inv_fo h)
theorem feeds_F1 {τ ρ : Sto} {b : Nat} (t : Nat) (hb : b < 2 ^ 24) (h : Inv τ ρ) : ∃ qx qm, (bd (some (τ, nI b)) fun q_7 => if nI 1 = (1 : Int32) then un (fX9_unfound q_7.1 (fJ6_bitCount_0f7a4 q_7.2)) fun q_12 => some (q_12.1, q_12.2) else if q_7.2 = (0 : Int32) then un (fX9_unfound q_7.1 (-1000000 : Int32)) fun q_10 => some (q_10.1, q_10.2) else un (fX9_unfound q_7.1 (fJ6_numberOfTrailingZeros_0f7a4 q_7.2)) fun q_9 => some (q_9.1, q_9.2)) = some qx ∧ fX10_feeds_j164 ρ (nI 1) (nI b) (nI t) = some qm ∧ qx.2 = qm.2 ∧ Inv qx.1 qm.1 := by
  unfold fX10_feeds_j164 fX9_unfound fX10_well
  simp only [un]
  rw [bd_s, if_pos (show nI 1 = (1 : Int32) by decide), if_neg (show ¬ nI 1 = (0 : Int32) by decide), if_pos (show nI 1 = (1 : Int32) by decide), bits24_M hb, bd_s, bits24_X hb]
  generalize nI (pw 24 b) = y
  exact mk2 (τx := up τ 0 9 0) (τm := up ρ 0 3 0) rfl rfl rfl (inv_fo h)
theorem feeds_F2 {τ ρ : Sto} {b t : Nat} (hb : b < 2 ^ 24) (l2 : 0 < b → fJ6_numberOfTrailingZeros_0f7a4 (nI b) = nI t) (h : Inv τ ρ) : ∃ qx qm, (bd (some (τ, nI b)) fun q_7 => if nI 2 = (1 : Int32) then un (fX9_unfound q_7.1 (fJ6_bitCount_0f7a4 q_7.2)) fun q_12 => some (q_12.1, q_12.2) else if q_7.2 = (0 : Int32) then un (fX9_unfound q_7.1 (-1000000 : Int32)) fun q_10 => some (q_10.1, q_10.2) else un (fX9_unfound q_7.1 (fJ6_numberOfTrailingZeros_0f7a4 q_7.2)) fun q_9 => some (q_9.1, q_9.2)) = some qx ∧ fX10_feeds_j164 ρ (nI 2) (nI b) (nI t) = some qm ∧ qx.2 = qm.2 ∧ Inv qx.1 qm.1 := by
  unfold fX10_feeds_j164 fX9_unfound fX10_well
  simp only [un]
  rw [bd_s, if_neg (show ¬ nI 2 = (1 : Int32) by decide), if_neg (show ¬ nI 2 = (0 : Int32) by decide), if_neg (show ¬ nI 2 = (1 : Int32) by decide)]
  dsimp only
  by_cases c : b = 0
  · rw [if_pos (show nI b = (0 : Int32) by rw [c]; rfl), if_pos (show nI b = (0 : Int32) by rw [c]; rfl)]
    exact mk2 (τx := up τ 0 9 0) (τm := up ρ 0 3 0) rfl rfl rfl (inv_fo h)
  · rw [if_neg (nI_n0 (by omega) c), if_neg (nI_n0 (by omega) c), l2 (by omega)]
    exact mk2 (τx := up τ 0 9 0) (τm := up ρ 0 3 0) rfl rfl rfl (inv_fo h)
theorem bt_24 {p : Nat → Bool} {z : Nat} : btN p (ftN z + 1) < 2 ^ 24 := Nat.lt_of_lt_of_le (bt_lt p (ftN z + 1)) (Nat.pow_le_pow_right (by decide) (by unfold ftN; split <;> decide))
theorem feeds_M0 {σm : Sto} {u : Nat → Nat} {r R i nd z : Nat} (kk : Sto → Int32 → Int32 → Option (Sto × Int32)) (hu : ∀ q, q < 59 → σm 4 q = nI (u q)) (h : okV u) (hr : r < u 0) (hz : z ≤ 2) (hd : u 4 + nd ≤ 2000) (hR : 40 * R + i + nd ≤ 320) (hn12 : nd ≤ 12) : ∃ ρ' b, fX10_feeds_L68 kk fu σm (nI r) (nI z) (nI R) (nI i) (nI nd) 0 0 = kk ρ' (nI z) (nI b) ∧ b < 2 ^ 24 ∧ b = btN (flP u (fun d => σm 3 (40 * R + i + d)) nd r (fjN z r)) (ftN z + 1) ∧ eM ρ' σm := by
  obtain ⟨ρ', m1, m2⟩ := feeds_LM kk hu h hr hz hd hR hn12 (ftN z + 1) 0 fu σm (by omega) (fu_gt (by unfold ftN; split <;> omega)) (fun _ _ => rfl)
  exact ⟨ρ', _, m1, bt_24, rfl, m2⟩
theorem floors_X {τ : Sto} {u : Nat → Nat} {r nd : Nat} {H : Nat → Int32} (h : okV u) (hr : r < u 0) (hd : u 4 + nd ≤ 2000) (hn12 : nd ≤ 12) (hV : VX τ 260 u) (h60 : τ 11 0 = nI 60) (hh : HR τ H nd) : ∃ τ' b, fX5_floorsThatFit_L13 36 fu τ (nI r) 0 0 = some (τ', nI b) ∧ b = btN (flP u H nd r (5 + r)) 10 ∧ ∀ q, q ≠ 12 → q < 260 → τ' q = τ q := by
  obtain ⟨τ', q1, q3⟩ := floors_L (H := H) h hr hd hn12 10 0 fu (u (5 + r)) τ (by omega) (fu_gt (by decide)) (by rw [vu_id]; exact hV) h60 hh
  exact ⟨τ', _, q1, rfl, q3⟩
theorem feeds_X {τ : Sto} {u : Nat → Nat} {r nd : Nat} {H : Nat → Int32} (h : okV u) (hr : r < u 0) (hd : u 4 + nd ≤ 2000) (hn12 : nd ≤ 12) (hV : VX τ 260 u) (h60 : τ 11 0 = nI 60) (hh : HR τ H nd) : ∃ τ' b, fX5_feedsThatFit_L13 36 fu τ (nI r) 0 0 = some (τ', nI b) ∧ b = btN (flP u H nd r 2) 21 ∧ ∀ q, q ≠ 12 → q < 260 → τ' q = τ q := by
  obtain ⟨τ', q1, q3⟩ := feeds_L (H := H) h hr hd hn12 21 0 fu (u 2) τ (by omega) (fu_gt (by decide)) (by rw [vu_id]; exact hV) h60 hh
  exact ⟨τ', _, q1, rfl, q3⟩
theorem un_e {α β : Type} (x : α) (f : α → β) : un x f = f x := rfl
theorem floors_U (τ : Sto) (x : Int32) : fX5_floorsThatFit τ 36 x = fX5_floorsThatFit_L13 36 fu (fX8_become τ 260 36) x 0 0 := by
  unfold fX5_floorsThatFit
  rw [un_e]
theorem feeds_U (τ : Sto) (x : Int32) : fX5_feedsThatFit τ 36 x = fX5_feedsThatFit_L13 36 fu (fX8_become τ 260 36) x 0 0 := by
  unfold fX5_feedsThatFit
  rw [un_e]
theorem op_feeds {σx σm : Sto} (h : Inv σx σm) (a1 : Int32) (a2 : Int32) (a3 : Int32) (a4 : Int32) (a5 : Int32) : ∃ qx qm, fX9_feeds σx a1 a2 a3 a4 a5 = some qx ∧ fX10_feeds σm a1 a2 a3 a4 a5 = some qm ∧ qx.2 = qm.2 ∧ Inv qx.1 qm.1 := by
  obtain ⟨u, hn⟩ := h.1
  unfold fX9_feeds fX10_feeds
  rcases g_room hn a1 with ⟨i1, ok, e1, e2⟩ | ⟨_, e1, e2⟩
  · rw [e1, e2, if_neg one_n0, if_neg one_n0]
    rcases g_in (x := a2) (a := 0) (b := 2) (ax := 0) (bx := 2) (A := 0) (B := 2) rfl rfl rfl rfl (by decide) (by decide) with ⟨i2, e1, e2⟩ | ⟨_, e1, e2⟩
    · rw [e1, e2, if_neg one_n0, if_neg one_n0]
      rcases g_row a3 with ⟨i3, e1, e2⟩ | ⟨_, e1, e2⟩
      · rw [e1, e2, if_neg one_n0, if_neg one_n0]
        rcases g_in (x := a5) (a := 1) (b := 12) (ax := 1) (bx := 12) (A := 1) (B := 12) rfl rfl rfl rfl (by decide) (by decide) with ⟨i5, e1, e2⟩ | ⟨_, e1, e2⟩
        · rw [e1, e2, if_neg one_n0, if_neg one_n0]
          obtain ⟨r, _, hr, rfl⟩ := inR_of i1
          obtain ⟨z, _, hz, rfl⟩ := inR_of i2
          obtain ⟨R, _, hR, rfl⟩ := inR_of i3
          obtain ⟨nd, hnd, hnd2, rfl⟩ := inR_of i5
          have hT := now_T hn
          have h4 := ok.2
          rcases lacks_J (x := a4) h hR (show 1 ≤ nd ∧ nd ≤ 12 by omega) with ⟨q, hq, f1, f2⟩ | ⟨i, rfl, hi, f1, f2⟩
          · rw [f1, f2, bd_s, bd_s]
            rcases hq with rfl | rfl
            · rw [if_neg (by decide)]
              dsimp only
              rw [if_neg (by decide)]
              exact mk2 rfl rfl rfl (inv_fo h)
            · rw [if_neg (by decide)]
              dsimp only
              rw [if_neg (by decide)]
              exact mk2 rfl rfl rfl (inv_fo h)
          · rw [f1, f2, bd_s, bd_s, if_pos rfl]
            dsimp only
            rw [if_pos (show (0 : Int32) ≤ 0 by decide)]
            obtain ⟨τ, t1, t2, t3⟩ := hear_X h hR hi (show nd ≤ 12 by omega)
            have hV36 : VX τ 36 u := VX_fr hn.1 (fun q _ _ => t2 q (by omega) (by omega))
            obtain ⟨d1, d2⟩ := become_X (σ := τ) (v0 := 260) (v1 := 36) (by decide) hV36 hT.1 hT.2
            have h60 : fX8_become τ 260 36 11 0 = nI 60 := by rw [d2 11 (by decide), t2 11 (by decide) (by decide)]; exact mo60 h
            have hh : HR (fX8_become τ 260 36) (fun d => σm 3 (40 * R + i + d)) nd := ⟨by rw [d2 10 (by decide)]; exact t3.1, fun d hd => by rw [d2 13 (by decide)]; exact t3.2 d hd⟩
            have fr : ∀ (τ' : Sto), (∀ q, q ≠ 12 → q < 260 → τ' q = fX8_become τ 260 36 q) → ∀ q, q ≠ 10 → q ≠ 12 → q ≠ 13 → q < 260 → τ' q = σx q := fun τ' e q z1 z2 z3 z4 => by rw [e q z2 z4, d2 q (by omega), t2 q z1 z3]
            obtain ⟨ρ', b, m1, hb24, hbe, m2⟩ := feeds_M0 (σm := σm) (r := r) (R := R) (i := i) (nd := nd) (z := z) (fun σ_6 z_7 z_8 => fX10_feeds_L143 fX10_feeds_j164 fu σ_6 z_7 z_8 (0 : Int32)) hn.2.1 ok.1 hr (by omega) (show u 4 + nd ≤ 2000 by omega) (show 40 * R + i + nd ≤ 320 by omega) (by omega)
            rw [t1, bd_s, m1]
            obtain ⟨t, l1, l2⟩ := low_J (ρ := ρ') (z := z) hb24
            rw [show fX10_feeds_L143 fX10_feeds_j164 fu ρ' (nI z) (nI b) (0 : Int32) = _ from l1]
            rw [floors_U, feeds_U]
            rcases (show z = 0 ∨ z = 1 ∨ z = 2 by omega) with rfl | rfl | rfl
            · obtain ⟨τ', b', q1, q2, q3⟩ := floors_X (H := fun d => σm 3 (40 * R + i + d)) ok.1 hr (show u 4 + nd ≤ 2000 by omega) (by omega) d1 h60 hh
              have hbb : b' = b := by rw [q2, hbe]; rfl
              subst hbb
              rw [if_pos (show nI 0 = (0 : Int32) by decide), q1]
              exact feeds_F0 _ t (inv_h h (fr τ' q3) m2)
            · obtain ⟨τ', b', q1, q2, q3⟩ := feeds_X (H := fun d => σm 3 (40 * R + i + d)) ok.1 hr (show u 4 + nd ≤ 2000 by omega) (by omega) d1 h60 hh
              have hbb : b' = b := by rw [q2, hbe]; rfl
              subst hbb
              rw [if_neg (show ¬ nI 1 = (0 : Int32) by decide), q1]
              exact feeds_F1 t hb24 (inv_h h (fr τ' q3) m2)
            · obtain ⟨τ', b', q1, q2, q3⟩ := feeds_X (H := fun d => σm 3 (40 * R + i + d)) ok.1 hr (show u 4 + nd ≤ 2000 by omega) (by omega) d1 h60 hh
              have hbb : b' = b := by rw [q2, hbe]; rfl
              subst hbb
              rw [if_neg (show ¬ nI 2 = (0 : Int32) by decide), q1]
              exact feeds_F2 hb24 l2 (inv_h h (fr τ' q3) m2)
        · rw [e1, e2, if_pos rfl, if_pos rfl]
          exact ⟨_, _, rfl, rfl, rfl, h⟩
      · rw [e1, e2, if_pos rfl, if_pos rfl]
        exact ⟨_, _, rfl, rfl, rfl, h⟩
    · rw [e1, e2, if_pos rfl, if_pos rfl]
      exact ⟨_, _, rfl, rfl, rfl, h⟩
  · rw [e1, e2, if_pos rfl, if_pos rfl]
    exact ⟨_, _, rfl, rfl, rfl, h⟩
