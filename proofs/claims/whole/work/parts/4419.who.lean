/-! what is told day by day: who -/
def okH (H : Nat → Int32) (q : Nat → Nat) : Nat → Bool
  | 0 => true
  | n + 1 => okH H q n && decide (H n = nI (q (n + 1)))
theorem okH_no {H : Nat → Int32} {q : Nat → Nat} {d : Nat} (h : ¬ H d = nI (q (d + 1))) : ∀ {n : Nat}, d < n → okH H q n = false
  | 0, hd => by omega
  | n + 1, hd => by
    show (okH H q n && decide (H n = nI (q (n + 1)))) = false
    by_cases e : d = n
    · subst e
      rw [decide_eq_false h, Bool.and_false]
    · rw [okH_no h (n := n) (by omega), Bool.false_and]
theorem okH_s {H : Nat → Int32} {q : Nat → Nat} {d : Nat} (h : okH H q d = true) (h2 : H d = nI (q (d + 1))) : okH H q (d + 1) = true := by
  show (okH H q d && decide (H d = nI (q (d + 1)))) = true
  rw [h, decide_eq_true h2]
  rfl
theorem okH_congr {H : Nat → Int32} {q p : Nat → Nat} : ∀ {n : Nat}, (∀ d, d ≤ n → q d = p d) → okH H q n = okH H p n
  | 0, _ => rfl
  | n + 1, h => by
    show (okH H q n && decide (H n = nI (q (n + 1)))) = (okH H p n && decide (H n = nI (p (n + 1))))
    rw [okH_congr (n := n) (fun d hd => h d (by omega)), h (n + 1) (Nat.le_refl _)]
def b1 (b : Bool) : Nat := if b then 1 else 0
theorem b1_t : b1 true = 1 := rfl
theorem b1_f : b1 false = 0 := rfl
/-- streets that agree but for the things -/
theorem lav_agree {u w : Nat → Nat} (h : ∀ j, j < 35 → u j = w j) (h0 : u 0 ≤ 10) : ∀ r, r < 10 → lavN u r = lavN w r := by
  intro r hr
  have e0 := h 0 (by decide)
  have hf : ∀ i, i < 10 → fdN u i = fdN w i := fun i hi => by
    unfold fdN
    rw [h 4 (by decide), h 3 (by decide), h 15 (by decide), h 2 (by decide), h (15 + i) (by omega)]
  unfold lavN
  by_cases c : r < u 0
  · rw [← e0]
    exact flF_congr (fun i hi => h _ (by omega)) (fun i hi => h _ (by omega)) (fun i hi => hf i (by omega)) (Nat.le_refl _) r c
  · rw [flF_hi (by omega) (Nat.le_refl _), flF_hi (by omega) (Nat.le_refl _), hf r hr]
theorem dys_agree {u w : Nat → Nat} (h : ∀ j, j < 35 → u j = w j) (h0 : u 0 ≤ 10) : ∀ d, ∀ j, j < 35 → dysN d u j = dysN d w j
  | 0, j, hj => h j hj
  | d + 1, j, hj => by
    have ih := dys_agree h h0 d
    show dayN (dysN d u) j = dayN (dysN d w) j
    by_cases c4 : j = 4
    · subst c4
      rw [day_4, day_4, ih 4 (by decide)]
    · by_cases c15 : j < 15
      · rw [day_lo c15 c4, day_lo c15 c4, ih j hj]
      · by_cases c25 : j < 25
        · obtain ⟨r, rfl⟩ : ∃ r, j = 15 + r := ⟨j - 15, by omega⟩
          rw [day_la (by omega), day_la (by omega)]
          exact lav_agree ih (by rw [dys_lo (by decide) (by decide)]; exact h0) r (by omega)
        · rw [day_mid (by omega) (by omega), day_mid (by omega) (by omega), ih j hj]
theorem pl_congr {R d so hi p : Nat} {L M : Nat → Nat} (hR : R ≤ 10) (hp : p < 20 → p < 10) (h : ∀ r, r < 10 → L r = M r) : plN R L d so hi p = plN R M d so hi p := by
  unfold plN
  by_cases c : 20 ≤ p
  · rw [if_pos c, if_pos c]
  · rw [if_neg c, if_neg c, pc_congr (hp (by omega)) h]
    by_cases c2 : R ≤ p + pcN so p M d
    · rw [if_pos c2, if_pos c2]
    · rw [if_neg c2, if_neg c2, h _ (by omega)]
/-- the places of a thing from a place on -/
def plQ (u : Nat → Nat) (k p : Nat) : Nat → Nat
  | 0 => p
  | d + 1 => plN (u 0) (lavN (dysN d u)) (u 4 + d) (u (35 + k)) (u (41 + k)) (plQ u k p d)
theorem plQ_b {u : Nat → Nat} {k p : Nat} (h0 : u 0 ≤ 10) (hp : p < 50) (hp2 : p < 20 → p < u 0) : ∀ d, plQ u k p d < 50 ∧ (plQ u k p d < 20 → plQ u k p d < u 0)
  | 0 => ⟨hp, hp2⟩
  | d + 1 => by
    obtain ⟨a, b⟩ := plQ_b h0 hp hp2 d
    show plN _ _ _ _ _ _ < 50 ∧ (plN _ _ _ _ _ _ < 20 → plN _ _ _ _ _ _ < u 0)
    unfold plN
    by_cases c : 20 ≤ plQ u k p d
    · rw [if_pos c]
      exact ⟨a, b⟩
    · rw [if_neg c]
      by_cases c2 : u 0 ≤ plQ u k p d + pcN (u (35 + k)) (plQ u k p d) (lavN (dysN d u)) (u 4 + d)
      · rw [if_pos c2]
        exact ⟨by decide, fun q => by omega⟩
      · rw [if_neg c2]
        split
        · exact ⟨by omega, fun q => by omega⟩
        · exact ⟨by omega, fun q => by omega⟩
theorem wh_plQ {u : Nat → Nat} {k : Nat} (h : okV u) (hk : k < u 1) : ∀ d, u 4 + d ≤ 2000 → whN (dysN d u) k = plQ u k (whN u k) d
  | 0, _ => rfl
  | d + 1, hd => by
    rw [wh_dys h (by omega) hk, wh_plQ h hk d (by omega)]
    rfl
theorem plQ_agree {u w : Nat → Nat} {k p : Nat} (h : ∀ j, j < 35 → u j = w j) (h35 : u (35 + k) = w (35 + k)) (h41 : u (41 + k) = w (41 + k)) (h0 : u 0 ≤ 10) (hp : p < 50) (hp2 : p < 20 → p < u 0) : ∀ d, plQ u k p d = plQ w k p d
  | 0 => rfl
  | d + 1 => by
    have ih := plQ_agree h h35 h41 h0 hp hp2 d
    have b := (plQ_b (k := k) h0 hp hp2 d).2
    show plN _ _ _ _ _ _ = plN _ _ _ _ _ _
    rw [← ih, ← h35, ← h41, ← h 0 (by decide), ← h 4 (by decide)]
    exact pl_congr h0 (fun q => by have := b q; omega) (fun r hr => lav_agree (dys_agree h h0 d) (by rw [dys_lo (by decide) (by decide)]; exact h0) r hr)
/-- the reference's trying of a row, for a thing -/
theorem fits_S {σ : Sto} {w : Nat → Nat} {k R i nd : Nat} (hw : okV w) (hk : k < w 1) (hd : w 4 + nd ≤ 2000) (hR : 40 * R + i + nd ≤ 320) (hn12 : nd ≤ 12) : ∀ (m d n : Nat), d + m = nd → m < n → fX10_fits_L6 n (SM σ 6 (dysN d w)) (nI k) (0 : Int32) (nI R) (nI i) (nI nd) (nI (b1 (okH (fun d => σ 3 (40 * R + i + d)) (fun d => whN (dysN d w) k) d))) (nI d) = some (SM σ 6 (dysN nd w), nI (b1 (okH (fun d => σ 3 (40 * R + i + d)) (fun d => whN (dysN d w) k) nd))) := by
  intro m
  induction m with
  | zero =>
    intro d n hd2 hn
    obtain ⟨n, rfl⟩ : ∃ q, n = q + 1 := ⟨n - 1, by omega⟩
    rw [fX10_fits_L6, if_pos (nI_le (by omega) (by omega)), show d = nd by omega]
    cases okH (fun d => σ 3 (40 * R + i + d)) (fun d => whN (dysN d w) k) nd
    · rfl
    · rfl
  | succ m ih =>
    intro d n hd2 hn
    obtain ⟨n, rfl⟩ : ∃ q, n = q + 1 := ⟨n - 1, by omega⟩
    have ih' := ih (d + 1) n (by omega) (by omega)
    have okd := (ok_dys hw (show w 4 + (d + 1) ≤ 2000 by omega)).1
    have h1 := hw.2.2.2.1
    have h53 : dysN (d + 1) w (53 + k) ≤ 2 := (okd.2.2.2.2.2.2.2.2.2.2.2 k (by rw [dys_lo (by decide) (by decide)]; exact hk)).2.2.2.2.2
    have h3 : SM σ 6 (dysN (d + 1) w) 3 = σ 3 := SM_ne (by decide)
    rw [fX10_fits_L6, if_neg (nI_ge (by omega) (by omega)), passes_M (ok_dys hw (by omega)).1, bd_s]
    show (if nI (b1 (okH (fun d => σ 3 (40 * R + i + d)) (fun d => whN (dysN d w) k) d)) = (0 : Int32) then _ else _) = _
    cases hc : okH (fun d => σ 3 (40 * R + i + d)) (fun d => whN (dysN d w) k) d with
    | false =>
      have e2 : okH (fun d => σ 3 (40 * R + i + d)) (fun d => whN (dysN d w) k) (d + 1) = false := by
        show (okH (fun d => σ 3 (40 * R + i + d)) (fun d => whN (dysN d w) k) d && _) = false
        rw [hc]
        rfl
      rw [e2] at ih'
      rw [if_pos (show nI (b1 false) = (0 : Int32) by decide)]
      simp only [un]
      rw [n32_1, nI_add]
      exact ih'
    | true =>
      rw [if_neg (show ¬ nI (b1 true) = (0 : Int32) by decide), n32_40, pk_mul, nI_add, nI_add, vin_t (by omega) (by decide), gd_t, n32_0, if_pos (nI_le (Nat.zero_le _) (by omega)), show dayN (dysN d w) = dysN (d + 1) w from rfl, whereOf_M (u := dysN (d + 1) w) (fun j hj => SM_at hj) (by omega) h53, bd_s, nI_clamp (by omega), h3]
      unfold fX10_fits_j64
      simp only [un]
      rw [n32_1, nI_add]
      by_cases c : σ 3 (40 * R + i + d) = nI (whN (dysN (d + 1) w) k)
      · rw [if_pos c]
        rw [okH_s (H := fun d => σ 3 (40 * R + i + d)) (q := fun d => whN (dysN d w) k) hc c] at ih'
        exact ih'
      · rw [if_neg c]
        rw [okH_no (H := fun d => σ 3 (40 * R + i + d)) (q := fun d => whN (dysN d w) k) c (Nat.lt_succ_self d)] at ih'
        exact ih'
theorem fits_M {σ : Sto} {w : Nat → Nat} {k R i nd : Nat} (hw : okV w) (hk : k < w 1) (hd : w 4 + nd ≤ 2000) (hR : 40 * R + i + nd ≤ 320) (hn12 : nd ≤ 12) : fX10_fits (SM σ 6 w) (nI k) (0 : Int32) (nI R) (nI i) (nI nd) = some (SM σ 6 (dysN nd w), nI (b1 (okH (fun d => σ 3 (40 * R + i + d)) (fun d => whN (dysN d w) k) nd))) := fits_S hw hk hd hR hn12 nd 0 fu (by omega) (fu_gt (by omega))
/-- .. and the program's -/
theorem goesH_X {σ : Sto} {u : Nat → Nat} {k p nd : Nat} {H : Nat → Int32} (hx : VX σ 260 u) (h : okV u) (ht : TL σ 11 u nd) (hk : k < u 1) (hd : u 4 + nd ≤ 2000) (hn12 : nd ≤ 12) (h3 : σ 10 3 = nI nd) (hH : ∀ d, d < nd → σ 13 d = H d) (hp : p < 50) (hp2 : p < 20 → p < u 0) : ∀ (m d n : Nat), d + m = nd → m < n → okH H (plQ u k p) d = true → fX5_goesAsHeard_L5 σ n (nI k) (nI (plQ u k p d)) (nI d) = some (nI (b1 (okH H (plQ u k p) nd))) := by
  intro m
  induction m with
  | zero =>
    intro d n hd2 hn hok
    obtain ⟨n, rfl⟩ : ∃ q, n = q + 1 := ⟨n - 1, by omega⟩
    rw [fX5_goesAsHeard_L5, h3, if_pos (nI_le (by omega) (by omega)), show nd = d by omega, hok]
    rfl
  | succ m ih =>
    intro d n hd2 hn hok
    obtain ⟨n, rfl⟩ : ∃ q, n = q + 1 := ⟨n - 1, by omega⟩
    obtain ⟨c1, c2⟩ := plQ_b (k := k) h.2.1 hp hp2 d
    rw [fX5_goesAsHeard_L5, h3, if_neg (nI_ge (by omega) (by omega)), pafter_X hx h ht (by omega) hd (by omega) (by show nd * 10 + 10 ≤ 610; omega) (by decide) hk c1 c2, bd_s, vin_t (by omega) (by decide), gd_t, nI_clamp (by omega), hH d (by omega)]
    show (if nI (plQ u k p (d + 1)) = H d then _ else _) = _
    by_cases c : nI (plQ u k p (d + 1)) = H d
    · rw [if_pos c]
      simp only [un]
      rw [n32_1, nI_add]
      exact ih (d + 1) n (by omega) (by omega) (okH_s hok c.symm)
    · rw [if_neg c, okH_no (fun q => c q.symm) (show d < nd by omega)]
      rfl
theorem goesH {σ : Sto} {u : Nat → Nat} {k p nd : Nat} {H : Nat → Int32} (hx : VX σ 260 u) (h : okV u) (ht : TL σ 11 u nd) (hk : k < u 1) (hd : u 4 + nd ≤ 2000) (hn12 : nd ≤ 12) (h3 : σ 10 3 = nI nd) (hH : ∀ d, d < nd → σ 13 d = H d) (hp : p < 50) (hp2 : p < 20 → p < u 0) : fX5_goesAsHeard σ (nI k) (nI p) = some (nI (b1 (okH H (plQ u k p) nd))) := goesH_X hx h ht hk hd hn12 h3 hH hp hp2 nd 0 fu (by omega) (fu_gt (by omega)) rfl
theorem VX_so {σ : Sto} {v k x : Nat} {u : Nat → Nat} (hx : VX σ v u) (hk : k < 6) (h1 : u 1 ≤ 6) (h0 : u 0 ≤ 10) : VX (up σ (v + 4) k (nI x)) v (va_up u (35 + k) x) := by
  obtain ⟨x1, x2, x3⟩ := hx
  refine ⟨fun i hi => ?_, fun q hq => ?_, fun q hq => ?_⟩
  · rw [up_k (by omega), vu_ne (by omega), x1 i hi]
  · rw [vu_ne (by omega)] at hq
    rw [up_k (by omega), up_k (by omega), up_k (by omega), vu_ne (by omega), vu_ne (by omega), vu_ne (by omega)]
    exact x2 q hq
  · rw [vu_ne (by omega)] at hq
    rw [up_k (show v + 5 ≠ v + 4 by omega), up_k (show v + 6 ≠ v + 4 by omega), up_k (show v + 7 ≠ v + 4 by omega), vu_ne (show 41 + q ≠ 35 + k by omega), vu_ne (show 47 + q ≠ 35 + k by omega), wh_a (by omega)]
    refine ⟨?_, (x3 q hq).2⟩
    by_cases e : q = k
    · subst e
      rw [up_i, vu_self]
    · rw [up_j e, vu_ne (by omega)]
      exact (x3 q hq).1
theorem VX_hi {σ : Sto} {v k x : Nat} {u : Nat → Nat} (hx : VX σ v u) (hk : k < 6) (h1 : u 1 ≤ 6) (h0 : u 0 ≤ 10) : VX (up σ (v + 5) k (nI x)) v (va_up u (41 + k) x) := by
  obtain ⟨x1, x2, x3⟩ := hx
  refine ⟨fun i hi => ?_, fun q hq => ?_, fun q hq => ?_⟩
  · rw [up_k (by omega), vu_ne (by omega), x1 i hi]
  · rw [vu_ne (by omega)] at hq
    rw [up_k (by omega), up_k (by omega), up_k (by omega), vu_ne (by omega), vu_ne (by omega), vu_ne (by omega)]
    exact x2 q hq
  · rw [vu_ne (by omega)] at hq
    rw [up_k (show v + 4 ≠ v + 5 by omega), up_k (show v + 6 ≠ v + 5 by omega), up_k (show v + 7 ≠ v + 5 by omega), vu_ne (show 35 + q ≠ 41 + k by omega), vu_ne (show 47 + q ≠ 41 + k by omega), wh_a (by omega)]
    refine ⟨(x3 q hq).1, ?_, (x3 q hq).2.2⟩
    by_cases e : q = k
    · subst e
      rw [up_i, vu_self]
    · rw [up_j e, vu_ne (by omega)]
      exact (x3 q hq).2.1
/-- a street in which a thing is otherwise -/
theorem okV_k {u : Nat → Nat} {j k x : Nat} (h : okV u) (hk : k < u 1) (hj : j = 35 + k ∧ 1 ≤ x ∧ x ≤ 5 ∨ j = 41 + k ∧ 1 ≤ x ∧ x ≤ 9 ∨ j = 47 + k ∧ x < u 0) : okV (va_up u j x) := by
  obtain ⟨h0, h1, h2, h3, h4, h5, h6, h7, h8, h9, h10, h11⟩ := h
  have e0 : va_up u j x 0 = u 0 := vu_ne (by omega)
  have e1 : va_up u j x 1 = u 1 := vu_ne (by omega)
  have e2 : va_up u j x 2 = u 2 := vu_ne (by omega)
  have e3 : va_up u j x 3 = u 3 := vu_ne (by omega)
  have e4 : va_up u j x 4 = u 4 := vu_ne (by omega)
  refine ⟨by omega, by omega, by omega, by omega, by omega, by omega, by omega, fun r hr => ?_, fun r hr => ?_, fun r hr hr2 => ?_, ?_, fun i hi => ?_⟩
  · rw [vu_ne (by omega)]
    exact h7 r hr
  · rw [vu_ne (by omega)]
    exact h8 r hr
  · rw [vu_ne (by omega)]
    exact h9 r (by omega) hr2
  · rw [e0, e4, sm_congr (M := fun r => u (15 + r)) (fun r hr => vu_ne (by omega))]
    exact h10
  · rw [e1] at hi
    obtain ⟨a1, a2, a3, a4, a5, a6⟩ := h11 i hi
    rw [e0]
    unfold va_up
    refine ⟨?_, ?_, ?_, ?_, ?_, ?_⟩
    all_goals split <;> omega
def hrN (acc : Int32) (b : Bool) (x : Nat) : Int32 := if b then acc ||| ((1 : Int32) <<< (nI x &&& (31 : Int32))) else acc ||| (0 : Int32)
/-- a turn of the reference's loop -/
theorem who_S {ρ : Sto} {u : Nat → Nat} {k R i nd j x top n : Nat} {acc : Int32} (hu : ∀ q, q < 59 → ρ 4 q = nI (u q)) (h : okV u) (hw : okV (va_up u j x)) (hj : 5 ≤ j ∧ j < 59) (hk : k < u 1) (hd : u 4 + nd ≤ 2000) (hR : 40 * R + i + nd ≤ 320) (hn12 : nd ≤ 12) (ht : x ≤ top) (ht2 : top < 100) : fX10_who_L145 (n + 1) ρ (nI k) (nI R) (nI i) (nI nd) (nI j) (nI top) acc (nI x) = fX10_who_L145 n (SM ρ 6 (dysN nd (va_up u j x))) (nI k) (nI R) (nI i) (nI nd) (nI j) (nI top) (hrN acc (okH (fun d => ρ 3 (40 * R + i + d)) (fun d => whN (dysN d (va_up u j x)) k) nd) x) (nI (x + 1)) := by
  rw [fX10_who_L145, if_neg (nI_nlt ht (by omega)), aside_0 hu h, bd_s, vin_t (by omega) (by decide), gd_t, nI_clamp (by omega)]
  simp only [un]
  rw [SM_up (by omega), fits_M hw (by rw [vu_ne (by omega)]; exact hk) (by rw [vu_ne (by omega)]; exact hd) hR hn12, bd_s]
  unfold hrN
  simp only []
  cases okH (fun d => ρ 3 (40 * R + i + d)) (fun d => whN (dysN d (va_up u j x)) k) nd
  · rw [if_pos (show nI (b1 false) = (0 : Int32) by decide), if_neg (by decide), n32_1, nI_add]
  · rw [if_neg (show ¬ nI (b1 true) = (0 : Int32) by decide), if_pos rfl, n32_1, nI_add]
theorem who_E {ρ : Sto} {x1 x3 x4 x5 x7 acc : Int32} {top n : Nat} (ht : top < 100) : fX10_who_L145 (n + 1) ρ x1 x3 x4 x5 x7 (nI top) acc (nI (top + 1)) = some (up ρ 0 3 0, acc) := by
  rw [fX10_who_L145, if_pos (nI_lt (by omega) (by omega))]
  rfl
/-- what the program has heard -/
def HR (τ : Sto) (H : Nat → Int32) (nd : Nat) : Prop := τ 10 3 = nI nd ∧ ∀ d, d < nd → τ 13 d = H d
theorem TL_agree {σ : Sto} {f d : Nat} {u w : Nat → Nat} (h : TL σ f u d) (e : ∀ j, j < 35 → w j = u j) (h0 : u 0 ≤ 10) : TL σ f w d := fun i hi r hr => by
  rw [e 0 (by decide)] at hr
  rw [dys_agree e (by rw [e 0 (by decide)]; exact h0) i (15 + r) (by omega)]
  exact h i hi r hr
theorem TL_fr {σ τ : Sto} {f d : Nat} {u : Nat → Nat} (h : TL σ f u d) (e : τ (f + 1) = σ (f + 1)) : TL τ f u d := fun i hi r hr => by rw [e]; exact h i hi r hr

theorem kinds_J {σx σm : Sto} {u : Nat → Nat} {k R i nd : Nat} {H : Nat → Int32} (hu : ∀ q, q < 59 → σm 4 q = nI (u q)) (hH : ∀ d, σm 3 (40 * R + i + d) = H d) (h : okV u) (hk : k < u 1) (hs0 : u (53 + k) = 0) (hd : u 4 + nd ≤ 2000) (hR : 40 * R + i + nd ≤ 320) (hn12 : nd ≤ 12) : ∀ (m x n n' x0 : Nat) (acc : Int32) (τ ρ : Sto), x + m = 5 + 1 → 1 ≤ x → m < n → m < n' → VX τ 260 (va_up u (35 + k) x0) → TL τ 11 u nd → HR τ H nd → τ 42 k = nI (u (47 + k)) → (∀ q, q < 260 → τ q = σx q) → eM ρ σm → ∃ τ' ρ' r, fX5_kindsThatFit_L28 36 n τ (nI k) acc (nI x) = some (τ', r) ∧ fX10_who_L145 n' ρ (nI k) (nI R) (nI i) (nI nd) (nI (35 + k)) (nI 5) acc (nI x) = some (up ρ' 0 3 0, r) ∧ (∀ q, q < 260 → τ' q = σx q) ∧ eM ρ' σm := by
  have h0 := h.2.1
  have h1 := h.2.2.2.1
  obtain ⟨a1, a2, a3, a4, a5, a6⟩ := h.2.2.2.2.2.2.2.2.2.2.2 k hk
  intro m
  induction m with
  | zero =>
    intro x n n' x0 acc τ ρ hx hx1 hn hn' hV hT hh hw hf hE
    obtain ⟨n, rfl⟩ : ∃ q, n = q + 1 := ⟨n - 1, by omega⟩
    obtain ⟨n', rfl⟩ : ∃ q, n' = q + 1 := ⟨n' - 1, by omega⟩
    refine ⟨τ, ρ, acc, ?_, ?_, hf, hE⟩
    · rw [fX5_kindsThatFit_L28, n32_5, if_pos (nI_lt (by omega) (by omega))]
    · rw [show x = 5 + 1 by omega, who_E (by decide)]
  | succ m ih =>
    intro x n n' x0 acc τ ρ hx hx1 hn hn' hV hT hh hw hf hE
    obtain ⟨n, rfl⟩ : ∃ q, n = q + 1 := ⟨n - 1, by omega⟩
    obtain ⟨n', rfl⟩ : ∃ q, n' = q + 1 := ⟨n' - 1, by omega⟩
    have okw : okV (va_up u (35 + k) x) := okV_k h hk (by omega)
    have hV2 : VX (up τ 264 k (nI x)) 260 (va_up u (35 + k) x) := by
      have := VX_so (x := x) hV (show k < 6 by omega) (by rw [vu_ne (by omega)]; exact h1) (by rw [vu_ne (by omega)]; exact h0)
      rw [vu_vu] at this
      exact this
    have hT2 : TL (up τ 264 k (nI x)) 11 u nd := TL_fr hT (up_k (by decide))
    have hw2 : up τ 264 k (nI x) 42 k = nI (u (47 + k)) := by rw [up_k (by decide)]; exact hw
    have hh2 : HR (up τ 264 k (nI x)) H nd := ⟨by rw [up_k (by decide)]; exact hh.1, fun d hd => by rw [up_k (by decide)]; exact hh.2 d hd⟩
    have huρ : ∀ q, q < 59 → ρ 4 q = nI (u q) := fun q hq => by rw [hE 4 (by decide)]; exact hu q hq
    have hwhu : whN (va_up u (35 + k) x) k = u (47 + k) := by rw [wh_a (by omega), wh_0 hs0]
    have hg := goesH (k := k) (p := u (47 + k)) (H := H) hV2 okw (TL_agree hT2 (fun j hj => vu_ne (by omega)) h0) (by rw [vu_ne (by omega)]; exact hk) (by rw [vu_ne (by omega)]; exact hd) hn12 hh2.1 hh2.2 (by omega) (fun _ => by rw [vu_ne (by omega)]; exact a5)
    have he : okH H (plQ (va_up u (35 + k) x) k (u (47 + k))) nd = okH (fun d => ρ 3 (40 * R + i + d)) (fun d => whN (dysN d (va_up u (35 + k) x)) k) nd := by
      have e1 : (fun d => ρ 3 (40 * R + i + d)) = H := by
        funext d
        rw [hE 3 (by decide)]
        exact hH d
      rw [e1]
      refine okH_congr (fun d hd2 => ?_)
      show plQ (va_up u (35 + k) x) k (u (47 + k)) d = whN (dysN d (va_up u (35 + k) x)) k
      rw [wh_plQ okw (by rw [vu_ne (by omega)]; exact hk) d (by rw [vu_ne (by omega)]; omega), hwhu]
    have hX : fX5_kindsThatFit_L28 36 (n + 1) τ (nI k) acc (nI x) = fX5_kindsThatFit_L28 36 n (up τ 264 k (nI x)) (nI k) (hrN acc (okH (fun d => ρ 3 (40 * R + i + d)) (fun d => whN (dysN d (va_up u (35 + k) x)) k) nd) x) (nI (x + 1)) := by
      rw [fX5_kindsThatFit_L28, n32_5, if_neg (nI_nlt (by omega) (by omega)), vin_t (by omega) (by decide), gd_t, nI_clamp (by omega)]
      simp only [un]
      rw [show up τ 264 k (nI x) (36 + 6) k = nI (u (47 + k)) from hw2, hg, bd_s, he]
      unfold hrN
      cases okH (fun d => ρ 3 (40 * R + i + d)) (fun d => whN (dysN d (va_up u (35 + k) x)) k) nd
      · rw [if_pos (show nI (b1 false) = (0 : Int32) by decide), if_neg (by decide), n32_1, nI_add]
      · rw [if_neg (show ¬ nI (b1 true) = (0 : Int32) by decide), if_pos rfl, n32_1, nI_add]
    rw [hX, who_S huρ h okw (by omega) hk hd hR hn12 (by omega) (by decide)]
    exact ih (x + 1) n n' x _ _ _ (by omega) (by omega) (by omega) (by omega) hV2 hT2 hh2 hw2 (fun q hq => by rw [up_k (by omega), hf q hq]) (eM_SM hE)
theorem highs_J {σx σm : Sto} {u : Nat → Nat} {k R i nd : Nat} {H : Nat → Int32} (hu : ∀ q, q < 59 → σm 4 q = nI (u q)) (hH : ∀ d, σm 3 (40 * R + i + d) = H d) (h : okV u) (hk : k < u 1) (hs0 : u (53 + k) = 0) (hd : u 4 + nd ≤ 2000) (hR : 40 * R + i + nd ≤ 320) (hn12 : nd ≤ 12) : ∀ (m x n n' x0 : Nat) (acc : Int32) (τ ρ : Sto), x + m = 9 + 1 → 1 ≤ x → m < n → m < n' → VX τ 260 (va_up u (41 + k) x0) → TL τ 11 u nd → HR τ H nd → τ 42 k = nI (u (47 + k)) → (∀ q, q < 260 → τ q = σx q) → eM ρ σm → ∃ τ' ρ' r, fX5_highsThatFit_L28 36 n τ (nI k) acc (nI x) = some (τ', r) ∧ fX10_who_L145 n' ρ (nI k) (nI R) (nI i) (nI nd) (nI (41 + k)) (nI 9) acc (nI x) = some (up ρ' 0 3 0, r) ∧ (∀ q, q < 260 → τ' q = σx q) ∧ eM ρ' σm := by
  have h0 := h.2.1
  have h1 := h.2.2.2.1
  obtain ⟨a1, a2, a3, a4, a5, a6⟩ := h.2.2.2.2.2.2.2.2.2.2.2 k hk
  intro m
  induction m with
  | zero =>
    intro x n n' x0 acc τ ρ hx hx1 hn hn' hV hT hh hw hf hE
    obtain ⟨n, rfl⟩ : ∃ q, n = q + 1 := ⟨n - 1, by omega⟩
    obtain ⟨n', rfl⟩ : ∃ q, n' = q + 1 := ⟨n' - 1, by omega⟩
    refine ⟨τ, ρ, acc, ?_, ?_, hf, hE⟩
    · rw [fX5_highsThatFit_L28, n32_9, if_pos (nI_lt (by omega) (by omega))]
    · rw [show x = 9 + 1 by omega, who_E (by decide)]
  | succ m ih =>
    intro x n n' x0 acc τ ρ hx hx1 hn hn' hV hT hh hw hf hE
    obtain ⟨n, rfl⟩ : ∃ q, n = q + 1 := ⟨n - 1, by omega⟩
    obtain ⟨n', rfl⟩ : ∃ q, n' = q + 1 := ⟨n' - 1, by omega⟩
    have okw : okV (va_up u (41 + k) x) := okV_k h hk (by omega)
    have hV2 : VX (up τ 265 k (nI x)) 260 (va_up u (41 + k) x) := by
      have := VX_hi (x := x) hV (show k < 6 by omega) (by rw [vu_ne (by omega)]; exact h1) (by rw [vu_ne (by omega)]; exact h0)
      rw [vu_vu] at this
      exact this
    have hT2 : TL (up τ 265 k (nI x)) 11 u nd := TL_fr hT (up_k (by decide))
    have hw2 : up τ 265 k (nI x) 42 k = nI (u (47 + k)) := by rw [up_k (by decide)]; exact hw
    have hh2 : HR (up τ 265 k (nI x)) H nd := ⟨by rw [up_k (by decide)]; exact hh.1, fun d hd => by rw [up_k (by decide)]; exact hh.2 d hd⟩
    have huρ : ∀ q, q < 59 → ρ 4 q = nI (u q) := fun q hq => by rw [hE 4 (by decide)]; exact hu q hq
    have hwhu : whN (va_up u (41 + k) x) k = u (47 + k) := by rw [wh_a (by omega), wh_0 hs0]
    have hg := goesH (k := k) (p := u (47 + k)) (H := H) hV2 okw (TL_agree hT2 (fun j hj => vu_ne (by omega)) h0) (by rw [vu_ne (by omega)]; exact hk) (by rw [vu_ne (by omega)]; exact hd) hn12 hh2.1 hh2.2 (by omega) (fun _ => by rw [vu_ne (by omega)]; exact a5)
    have he : okH H (plQ (va_up u (41 + k) x) k (u (47 + k))) nd = okH (fun d => ρ 3 (40 * R + i + d)) (fun d => whN (dysN d (va_up u (41 + k) x)) k) nd := by
      have e1 : (fun d => ρ 3 (40 * R + i + d)) = H := by
        funext d
        rw [hE 3 (by decide)]
        exact hH d
      rw [e1]
      refine okH_congr (fun d hd2 => ?_)
      show plQ (va_up u (41 + k) x) k (u (47 + k)) d = whN (dysN d (va_up u (41 + k) x)) k
      rw [wh_plQ okw (by rw [vu_ne (by omega)]; exact hk) d (by rw [vu_ne (by omega)]; omega), hwhu]
    have hX : fX5_highsThatFit_L28 36 (n + 1) τ (nI k) acc (nI x) = fX5_highsThatFit_L28 36 n (up τ 265 k (nI x)) (nI k) (hrN acc (okH (fun d => ρ 3 (40 * R + i + d)) (fun d => whN (dysN d (va_up u (41 + k) x)) k) nd) x) (nI (x + 1)) := by
      rw [fX5_highsThatFit_L28, n32_9, if_neg (nI_nlt (by omega) (by omega)), vin_t (by omega) (by decide), gd_t, nI_clamp (by omega)]
      simp only [un]
      rw [show up τ 265 k (nI x) (36 + 6) k = nI (u (47 + k)) from hw2, hg, bd_s, he]
      unfold hrN
      cases okH (fun d => ρ 3 (40 * R + i + d)) (fun d => whN (dysN d (va_up u (41 + k) x)) k) nd
      · rw [if_pos (show nI (b1 false) = (0 : Int32) by decide), if_neg (by decide), n32_1, nI_add]
      · rw [if_neg (show ¬ nI (b1 true) = (0 : Int32) by decide), if_pos rfl, n32_1, nI_add]
    rw [hX, who_S huρ h okw (by omega) hk hd hR hn12 (by omega) (by decide)]
    exact ih (x + 1) n n' x _ _ _ (by omega) (by omega) (by omega) (by omega) hV2 hT2 hh2 hw2 (fun q hq => by rw [up_k (by omega), hf q hq]) (eM_SM hE)
theorem rooms_J {σx σm : Sto} {u : Nat → Nat} {k R i nd : Nat} {H : Nat → Int32} (hu : ∀ q, q < 59 → σm 4 q = nI (u q)) (hH : ∀ d, σm 3 (40 * R + i + d) = H d) (h : okV u) (hk : k < u 1) (hs0 : u (53 + k) = 0) (hd : u 4 + nd ≤ 2000) (hR : 40 * R + i + nd ≤ 320) (hn12 : nd ≤ 12) {τ : Sto} (hV36 : VX τ 36 u) (hV : VX τ 260 u) (hT : TL τ 11 u nd) (hh : HR τ H nd) : ∀ (m x n n' : Nat) (acc : Int32) (ρ : Sto), x + m = u 0 → m < n → m < n' → eM ρ σm → ∃ ρ' r, fX5_roomsThatFit_L28 36 n τ (nI k) acc (nI x) = some (τ, r) ∧ fX10_who_L145 n' ρ (nI k) (nI R) (nI i) (nI nd) (nI (47 + k)) (nI (u 0 - 1)) acc (nI x) = some (up ρ' 0 3 0, r) ∧ eM ρ' σm := by
  have h0 := h.2.1
  have h1 := h.2.2.2.1
  have h3 := h.1
  intro m
  induction m with
  | zero =>
    intro x n n' acc ρ hx hn hn' hE
    obtain ⟨n, rfl⟩ : ∃ q, n = q + 1 := ⟨n - 1, by omega⟩
    obtain ⟨n', rfl⟩ : ∃ q, n' = q + 1 := ⟨n' - 1, by omega⟩
    refine ⟨ρ, acc, ?_, ?_, hE⟩
    · rw [fX5_roomsThatFit_L28, hV36.1 0 (by decide), if_pos (nI_le (by omega) (by omega))]
    · rw [show x = (u 0 - 1) + 1 by omega, who_E (by omega)]
  | succ m ih =>
    intro x n n' acc ρ hx hn hn' hE
    obtain ⟨n, rfl⟩ : ∃ q, n = q + 1 := ⟨n - 1, by omega⟩
    obtain ⟨n', rfl⟩ : ∃ q, n' = q + 1 := ⟨n' - 1, by omega⟩
    have okw : okV (va_up u (47 + k) x) := okV_k h hk (by omega)
    have huρ : ∀ q, q < 59 → ρ 4 q = nI (u q) := fun q hq => by rw [hE 4 (by decide)]; exact hu q hq
    have hwhu : whN (va_up u (47 + k) x) k = x := by
      unfold whN
      rw [vu_self, vu_ne (by omega), hs0, if_neg (by decide), if_neg (by decide)]
    have hg := goesH (k := k) (p := x) (H := H) hV h hT hk hd hn12 hh.1 hh.2 (by omega) (fun _ => by omega)
    have he : okH H (plQ u k x) nd = okH (fun d => ρ 3 (40 * R + i + d)) (fun d => whN (dysN d (va_up u (47 + k) x)) k) nd := by
      have e1 : (fun d => ρ 3 (40 * R + i + d)) = H := by
        funext d
        rw [hE 3 (by decide)]
        exact hH d
      rw [e1]
      refine okH_congr (fun d hd2 => ?_)
      show plQ u k x d = whN (dysN d (va_up u (47 + k) x)) k
      rw [wh_plQ okw (by rw [vu_ne (by omega)]; exact hk) d (by rw [vu_ne (by omega)]; omega), hwhu]
      exact plQ_agree (u := u) (w := va_up u (47 + k) x) (p := x) (fun j hj => (vu_ne (show j ≠ 47 + k by omega)).symm) (vu_ne (show 35 + k ≠ 47 + k by omega)).symm (vu_ne (show 41 + k ≠ 47 + k by omega)).symm h0 (by omega) (fun _ => by omega) d
    have hX : fX5_roomsThatFit_L28 36 (n + 1) τ (nI k) acc (nI x) = fX5_roomsThatFit_L28 36 n τ (nI k) (hrN acc (okH (fun d => ρ 3 (40 * R + i + d)) (fun d => whN (dysN d (va_up u (47 + k) x)) k) nd) x) (nI (x + 1)) := by
      rw [fX5_roomsThatFit_L28, hV36.1 0 (by decide), if_neg (nI_ge (by omega) (by omega)), hg, bd_s, he]
      unfold hrN
      simp only [un]
      cases okH (fun d => ρ 3 (40 * R + i + d)) (fun d => whN (dysN d (va_up u (47 + k) x)) k) nd
      · rw [if_pos (show nI (b1 false) = (0 : Int32) by decide), if_neg (by decide), n32_1, nI_add]
      · rw [if_neg (show ¬ nI (b1 true) = (0 : Int32) by decide), if_pos rfl, n32_1, nI_add]
    rw [hX, who_S huρ h okw (by omega) hk hd hR hn12 (by omega) (by omega)]
    exact ih (x + 1) n n' _ _ (by omega) (by omega) (by omega) (eM_SM hE)
/-- the row's finding, on both sides -/
theorem lacks_J {σx σm : Sto} (h : Inv σx σm) {R nd : Nat} {x : Int32} (hR : R < 8) (hd : 1 ≤ nd ∧ nd ≤ 12) : (∃ c, (c = 1 ∨ c = 2) ∧ fX4_findingAt σx (nI R) x (nI nd) = some (nI c) ∧ fX10_lacks σm (nI R) x (nI nd) = some (up σm 0 3 (nI c), (-1000010 : Int32) - nI c)) ∨ (∃ i, x = nI i ∧ i + nd ≤ 40 ∧ fX4_findingAt σx (nI R) x (nI nd) = some 0 ∧ fX10_lacks σm (nI R) x (nI nd) = some (σm, 0)) := by
  obtain ⟨r1, r2⟩ := h.2.2.2.1 R hR
  unfold fX4_findingAt fX10_lacks
  rw [vin_t hR (by decide), gd_t, nI_clamp (by omega)]
  rcases miss_X hR r1 with ⟨m, m1, m2⟩ | ⟨m, l, s, h1, h2, h3, h4, h5, h6⟩
  · left
    refine ⟨1, Or.inl rfl, ?_, ?_⟩
    · rw [m, bd_s, if_neg one_n0]
      rfl
    · rw [m2, if_neg (by decide)]
      rfl
  · rw [m, bd_s, if_pos rfl, h6, if_pos (show (0 : Int32) ≤ nI s from nI_pos' (by omega))]
    have l0 : ∀ x : Int32, x < 0 ↔ x.toInt < 0 := fun x => Int32.lt_iff_toInt_lt
    have hnd : (nI nd).toInt = (nd : Int) := nI_toInt (by omega)
    rcases places_X (x := x) (y := nI nd) hR h5 h2 with ⟨p1, pl⟩ | ⟨p1, pl⟩
    · right
      rw [hnd] at p1
      obtain ⟨i, _, hi, rfl⟩ := inR_of (x := x) (a := 0) (b := 41) ⟨by omega, by omega⟩
      rw [nI_toInt (by omega)] at p1
      refine ⟨i, rfl, by omega, ?_, ?_⟩
      · rw [pl, bd_s, if_neg one_n0]
      · rw [if_neg (nI_pos (by omega)), if_pos (by rw [lcmp_le, l_add, i64_nI, nI_toInt (by omega), hnd, nI_toInt (by omega)]; omega)]
    · left
      rw [hnd] at p1
      refine ⟨2, Or.inr rfl, ?_, ?_⟩
      · rw [pl, bd_s, if_pos rfl]
        rfl
      · by_cases d : x < 0
        · rw [if_pos d]
          rfl
        · rw [if_neg d, if_neg (by rw [l0] at d; rw [lcmp_le, l_add, i64_nI, hnd, nI_toInt (by omega)]; omega)]
          rfl
theorem hear_L {σ0 : Sto} {R i nd : Nat} (hR : R < 8) (hi : i + nd ≤ 40) (hn12 : nd ≤ 12) : ∀ (m d n : Nat) (σ : Sto), d + m = nd → m < n → σ 10 3 = nI nd → (∀ q, q ≠ 13 → σ q = σ0 q) → (∀ q, q < d → σ 13 q = σ0 (itV R) (i + q)) → ∃ σ', fX5_hear_L14 n σ (nI R) (nI i) (nI d) = some σ' ∧ (∀ q, q ≠ 13 → σ' q = σ0 q) ∧ (∀ q, q < nd → σ' 13 q = σ0 (itV R) (i + q)) := by
  intro m
  induction m with
  | zero =>
    intro d n σ hd hn h3 hf hq
    obtain ⟨n, rfl⟩ : ∃ q, n = q + 1 := ⟨n - 1, by omega⟩
    exact ⟨σ, by rw [fX5_hear_L14, h3, if_pos (nI_le (by omega) (by omega))], hf, fun q hq2 => hq q (by omega)⟩
  | succ m ih =>
    intro d n σ hd hn h3 hf hq
    obtain ⟨n, rfl⟩ : ∃ q, n = q + 1 := ⟨n - 1, by omega⟩
    obtain ⟨σ', r1, r2, r3⟩ := ih (d + 1) n (up σ 13 d (σ0 (itV R) (i + d))) (by omega) (by omega) (by rw [up_k (by decide)]; exact h3) (fun q hq2 => by rw [up_k hq2, hf q hq2]) (fun q hq2 => by
      by_cases e : q = d
      · subst e
        rw [up_i]
      · rw [up_j e]
        exact hq q (by omega))
    refine ⟨σ', ?_, r2, r3⟩
    rw [fX5_hear_L14, h3, if_neg (nI_ge (by omega) (by omega))]
    unfold fX4_item
    rw [nI_add, vin_t hR (by decide), gd_t, vin_t (by omega) (by decide), gd_t, nI_clamp (by omega), nI_clamp (by omega), bd_s, vin_t (by omega) (by decide), gd_t, nI_clamp (by omega), hf (itV R) (by unfold itV; omega)]
    simp only [un]
    rw [n32_1, nI_add]
    exact r1
theorem hear_X {σx σm : Sto} (h : Inv σx σm) {R i nd : Nat} (hR : R < 8) (hi : i + nd ≤ 40) (hn12 : nd ≤ 12) : ∃ τ, fX5_hear σx (nI R) (nI i) (nI nd) = some τ ∧ (∀ q, q ≠ 10 → q ≠ 13 → τ q = σx q) ∧ HR τ (fun d => σm 3 (40 * R + i + d)) nd := by
  unfold fX5_hear
  rw [n32_12, if_neg (nI_nlt (by omega) (by omega))]
  simp only [un]
  obtain ⟨τ, t1, t2, t3⟩ := hear_L (σ0 := up σx 10 3 (nI nd)) hR hi hn12 nd 0 fu (up σx 10 3 (nI nd)) (by omega) (fu_gt (by omega)) up_i (fun _ _ => rfl) (fun q hq => absurd hq (Nat.not_lt_zero q))
  refine ⟨τ, t1, fun q h1 h2 => by rw [t2 q h2, up_k h1], by rw [t2 10 (by decide), up_i], fun d hd => ?_⟩
  rw [t3 d hd, up_k (by unfold itV; omega), (h.2.2.2.1 R hR).2 (i + d) (by omega)]
  show σm 3 (40 * R + (i + d)) = σm 3 (40 * R + i + d)
  rw [Nat.add_assoc]
theorem inv_h {σx σm τx τm : Sto} (h : Inv σx σm) (ex : ∀ q, q ≠ 10 → q ≠ 12 → q ≠ 13 → q < 260 → τx q = σx q) (hm : eM τm σm) : Inv τx τm :=
  inv_fr h (fun k h1 h2 => by unfold scX at h2; exact ex k (by omega) (by omega) (by omega) (by omega)) (by rw [ex 21 (by decide) (by decide) (by decide) (by decide)]) (fun k _ _ h6 _ => hm k h6) (fun j _ => by rw [hm 0 (by decide)])

theorem op_who {σx σm : Sto} (h : Inv σx σm) (a1 : Int32) (a2 : Int32) (a3 : Int32) (a4 : Int32) (a5 : Int32) : ∃ qx qm, fX9_who σx a1 a2 a3 a4 a5 = some qx ∧ fX10_who σm a1 a2 a3 a4 a5 = some qm ∧ qx.2 = qm.2 ∧ Inv qx.1 qm.1 := by
  obtain ⟨u, hn⟩ := h.1
  unfold fX9_who fX10_who
  rcases g_thing hn a1 with ⟨i1, ok, e1, e2⟩ | ⟨_, e1, e2⟩
  · rw [e1, e2, if_neg one_n0, if_neg one_n0]
    rcases g_in (x := a2) (a := 0) (b := 2) (ax := 0) (bx := 2) (A := 0) (B := 2) rfl rfl rfl rfl (by decide) (by decide) with ⟨i2, e1, e2⟩ | ⟨_, e1, e2⟩
    · rw [e1, e2, if_neg one_n0, if_neg one_n0]
      rcases g_row a3 with ⟨i3, e1, e2⟩ | ⟨_, e1, e2⟩
      · rw [e1, e2, if_neg one_n0, if_neg one_n0]
        rcases g_in (x := a5) (a := 1) (b := 12) (ax := 1) (bx := 12) (A := 1) (B := 12) rfl rfl rfl rfl (by decide) (by decide) with ⟨i5, e1, e2⟩ | ⟨_, e1, e2⟩
        · rw [e1, e2, if_neg one_n0, if_neg one_n0]
          obtain ⟨k, _, hk, rfl⟩ := inR_of i1
          obtain ⟨z, _, hz, rfl⟩ := inR_of i2
          obtain ⟨R, _, hR, rfl⟩ := inR_of i3
          obtain ⟨nd, hnd, hnd2, rfl⟩ := inR_of i5
          have hT := now_T hn
          have h4 := ok.2
          obtain ⟨b1', b2, b3, b4, b5, b6⟩ := ok.1.2.2.2.2.2.2.2.2.2.2.2 k hk
          rw [stands_X hn.1 ok.1 hk, bd_s, n32_53, nI_add, vin_t (show 53 + k < 59 by omega) (by decide), gd_t, nI_clamp (show 53 + k < 2 ^ 31 by omega), hn.2.1 (53 + k) (by omega)]
          by_cases c : u (53 + k) = 0
          · rw [if_pos c, if_neg (show ¬ nI 1 = (0 : Int32) by decide), if_pos (show nI (u (53 + k)) = (0 : Int32) by rw [c]; rfl)]
            rcases lacks_J (x := a4) h hR (show 1 ≤ nd ∧ nd ≤ 12 by omega) with ⟨q, hq, f1, f2⟩ | ⟨i, rfl, hi, f1, f2⟩
            · rw [f1, f2, bd_s, bd_s]
              rcases hq with rfl | rfl
              · rw [if_neg (by decide)]
                dsimp only
                rw [if_neg (by decide)]
                exact mk2 rfl rfl rfl (inv_fo h)
              · rw [if_neg (by decide)]
                dsimp only
                rw [if_neg (by decide)]
                exact mk2 rfl rfl rfl (inv_fo h)
            · rw [f1, f2, bd_s, bd_s, if_pos rfl]
              dsimp only
              rw [if_pos (show (0 : Int32) ≤ 0 by decide)]
              obtain ⟨τ, t1, t2, t3⟩ := hear_X h hR hi (show nd ≤ 12 by omega)
              have hV36 : VX τ 36 u := VX_fr hn.1 (fun q _ _ => t2 q (by omega) (by omega))
              obtain ⟨d1, d2⟩ := become_X (σ := τ) (v0 := 260) (v1 := 36) (by decide) hV36 hT.1 hT.2
              have h103 : fX8_become τ 260 36 10 3 = nI nd := by rw [d2 10 (by decide)]; exact t3.1
              obtain ⟨τ2, s1, s2, s3⟩ := tell_X (f := 11) (v := 260) (d := nd) (most := 60) (by decide) (by decide) d1 ok.1 (by omega) (by rw [d2 11 (by decide), t2 11 (by decide) (by decide)]; exact mo60 h) (by omega) (by decide) (by decide)
              have fr : ∀ q, q ≠ 10 → q ≠ 12 → q ≠ 13 → q < 260 → τ2 q = σx q := fun q z1 z2 z3 z4 => by rw [s3 q z2, d2 q (by omega), t2 q z1 z3]
              have hV2 : VX τ2 260 u := VX_fr d1 (fun q h1 h2 => s3 q (by omega))
              have hV362 : VX τ2 36 u := VX_fr hn.1 (fun q h1 h2 => fr q (by omega) (by omega) (by omega) (by omega))
              have hh : HR τ2 (fun d => σm 3 (40 * R + i + d)) nd := ⟨by rw [s3 10 (by decide)]; exact h103, fun d hd => by rw [s3 13 (by decide), d2 13 (by decide)]; exact t3.2 d hd⟩
              have hw : τ2 42 k = nI (u (47 + k)) := by
                have := (hV362.2.2 k hk).2.2.1
                rw [wh_0 c] at this
                exact this
              rw [t1, bd_s]
              unfold fX5_kindsThatFit fX5_highsThatFit fX5_roomsThatFit fX10_who_j98 fX10_who_j128 fX10_who_j143
              simp only [un]
              rw [h103, s1, bd_s, bd_s, bd_s, n32_35, n32_41, n32_47, nI_add, nI_add, nI_add, hn.2.1 0 (by decide), n32_1, pk_sub (show 1 ≤ u 0 by have := ok.1.1; omega)]
              rcases (show z = 0 ∨ z = 1 ∨ z = 2 by omega) with rfl | rfl | rfl
              · obtain ⟨τ', ρ', r, q1, q2, q3, q4⟩ := kinds_J (σx := τ2) (H := fun d => σm 3 (40 * R + i + d)) hn.2.1 (fun d => rfl) ok.1 hk c (show u 4 + nd ≤ 2000 by omega) (show 40 * R + i + nd ≤ 320 by omega) (by omega) 5 1 fu fu (u (35 + k)) 0 τ2 σm (by decide) (by decide) (fu_gt (by decide)) (fu_gt (by decide)) (by rw [vu_id]; exact hV2) s2 hh hw (fun _ _ => rfl) (fun _ _ => rfl)
                have q1 : fX5_kindsThatFit_L28 36 fu τ2 (nI k) 0 (nI 1) = some (τ', r) := q1
                rw [if_pos (by decide), q1, bd_s, if_pos (by decide), if_pos (by decide), if_neg (by decide)]
                refine mk2 (τx := up τ' 0 9 0) (τm := up ρ' 0 3 0) (r := r) rfl q2 rfl (inv_fo (inv_h h (fun q z1 z2 z3 z4 => by rw [q3 q z4, fr q z1 z2 z3 z4]) q4))
              · obtain ⟨τ', ρ', r, q1, q2, q3, q4⟩ := highs_J (σx := τ2) (H := fun d => σm 3 (40 * R + i + d)) hn.2.1 (fun d => rfl) ok.1 hk c (show u 4 + nd ≤ 2000 by omega) (show 40 * R + i + nd ≤ 320 by omega) (by omega) 9 1 fu fu (u (41 + k)) 0 τ2 σm (by decide) (by decide) (fu_gt (by decide)) (fu_gt (by decide)) (by rw [vu_id]; exact hV2) s2 hh hw (fun _ _ => rfl) (fun _ _ => rfl)
                have q1 : fX5_highsThatFit_L28 36 fu τ2 (nI k) 0 (nI 1) = some (τ', r) := q1
                rw [if_neg (by decide), if_pos (by decide), q1, bd_s, if_neg (by decide), if_pos (by decide), if_neg (by decide), if_pos (by decide), if_neg (by decide)]
                refine mk2 (τx := up τ' 0 9 0) (τm := up ρ' 0 3 0) (r := r) rfl q2 rfl (inv_fo (inv_h h (fun q z1 z2 z3 z4 => by rw [q3 q z4, fr q z1 z2 z3 z4]) q4))
              · obtain ⟨ρ', r, q1, q2, q4⟩ := rooms_J (σx := τ2) (H := fun d => σm 3 (40 * R + i + d)) hn.2.1 (fun d => rfl) ok.1 hk c (show u 4 + nd ≤ 2000 by omega) (show 40 * R + i + nd ≤ 320 by omega) (by omega) hV362 hV2 s2 hh (u 0) 0 fu fu 0 σm (by omega) (fu_gt (by omega)) (fu_gt (by omega)) (fun _ _ => rfl)
                have q1 : fX5_roomsThatFit_L28 36 fu τ2 (nI k) 0 0 = some (τ2, r) := q1
                rw [if_neg (by decide), if_neg (by decide), q1, bd_s, if_neg (by decide), if_neg (by decide), if_neg (by decide), if_neg (by decide), if_pos (by decide)]
                refine mk2 (τx := up τ2 0 9 0) (τm := up ρ' 0 3 0) (r := r) rfl q2 rfl (inv_fo (inv_h h fr q4))
          · rw [if_neg c, if_pos (show nI 0 = (0 : Int32) by decide), if_neg (nI_n0 (by omega) c)]
            exact ⟨_, _, rfl, rfl, rfl, h⟩
        · rw [e1, e2, if_pos rfl, if_pos rfl]
          exact ⟨_, _, rfl, rfl, rfl, h⟩
      · rw [e1, e2, if_pos rfl, if_pos rfl]
        exact ⟨_, _, rfl, rfl, rfl, h⟩
    · rw [e1, e2, if_pos rfl, if_pos rfl]
      exact ⟨_, _, rfl, rfl, rfl, h⟩
  · rw [e1, e2, if_pos rfl, if_pos rfl]
    exact ⟨_, _, rfl, rfl, rfl, h⟩
