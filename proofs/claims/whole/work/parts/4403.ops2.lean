/-! front, when -/
def ftI (L : Nat → Nat) : Nat → Int32
  | 0 => -1000000
  | n + 1 => if 0 < L n then nI n else ftI L n
theorem nI_m1 (m : Nat) : nI m + (-1 : Int32) = nI m - nI 1 := (Int32.sub_eq_add_neg (nI m) 1).symm
theorem le0_n {x : Nat} (h : x < 2 ^ 31) : nI x ≤ (0 : Int32) ↔ x = 0 := by
  rw [n32_0]
  constructor
  · intro q
    apply Classical.byContradiction
    intro hq
    exact nI_nle (show 0 < x by omega) h q
  · intro q
    rw [q]
    exact nI_le (Nat.le_refl _) (by decide)
theorem front_LX {σ : Sto} {d : Nat} {L : Nat → Nat} {R : Nat} (hR : R ≤ 10) (hl : ∀ r, r < R → fX2_lavaIn σ 11 (nI r) (nI d) = some (nI (L r))) (hb : ∀ r, r < R → L r < 2 ^ 30) : ∀ (m n : Nat), m ≤ R → m < n → fX5_frontBehind_L16 36 n σ (nI d) (nI m - nI 1) = some (σ, ftI L m)
  | 0, n, _, hn => by
    obtain ⟨n, rfl⟩ : ∃ q, n = q + 1 := ⟨n - 1, by omega⟩
    rw [fX5_frontBehind_L16, if_pos (by decide)]
    rfl
  | m + 1, n, hm, hn => by
    obtain ⟨n, rfl⟩ : ∃ q, n = q + 1 := ⟨n - 1, by omega⟩
    have ih := front_LX hR hl hb m n (by omega) (by omega)
    rw [pk_sub (by omega), Nat.add_sub_cancel, fX5_frontBehind_L16, if_neg (nI_pos (by omega)), hl m (by omega), bd_s, ftI]
    by_cases c : 0 < L m
    · rw [if_neg (fun q => by have := (le0_n (by have := hb m (by omega); omega)).mp q; omega), if_pos c]
    · rw [if_pos ((le0_n (by have := hb m (by omega); omega)).mpr (by omega)), if_neg c]
      simp only [un]
      rw [nI_m1]
      exact ih
theorem front_LM {σ : Sto} {u w : Nat → Nat} (h4 : ∀ j, j < 59 → σ 4 j = nI (u j)) (hR : u 0 ≤ 10) (hb : ∀ q, q < 10 → w (15 + q) < 2 ^ 30) : ∀ (m r n : Nat), r + m = u 0 → m < n → fX10_front_L35 n (SM σ 6 w) (ftI (fun r => w (15 + r)) r) (nI r) = some (SM σ 6 w, ftI (fun r => w (15 + r)) (u 0)) := by
  intro m
  induction m with
  | zero =>
    intro r n hr hn
    obtain ⟨n, rfl⟩ : ∃ q, n = q + 1 := ⟨n - 1, by omega⟩
    rw [fX10_front_L35, SM_ne (by decide), h4 0 (by decide), if_pos (nI_le (by omega) (by omega)), show r = u 0 by omega]
  | succ m ih =>
    intro r n hr hn
    obtain ⟨n, rfl⟩ : ∃ q, n = q + 1 := ⟨n - 1, by omega⟩
    have ih' := ih (r + 1) n (by omega) (by omega)
    have l0 := lies_M (σ := σ) (a := 6) (r := r) (k := 0) (u := w) (by omega) (by decide) hb
    rw [nI_sub0] at l0
    rw [fX10_front_L35, SM_ne (by decide), h4 0 (by decide), if_neg (nI_ge (by omega) (by omega)), l0, bd_s, Nat.sub_zero]
    rw [ftI] at ih'
    by_cases c : 0 < w (15 + r)
    · rw [if_pos (⟨Nat.zero_le _, c⟩ : 0 ≤ r ∧ 0 < w (15 + r)), if_neg (by decide)]
      rw [if_pos c] at ih'
      simp only [un]
      rw [n32_1, nI_add]
      exact ih'
    · rw [if_neg (show ¬ (0 ≤ r ∧ 0 < w (15 + r)) from fun q => c q.2), if_pos n32_0.symm]
      rw [if_neg c] at ih'
      simp only [un]
      rw [n32_1, nI_add]
      exact ih'
theorem op_front {σx σm : Sto} (h : Inv σx σm) (a1 : Int32) : ∃ qx qm, fX9_front σx a1 = some qx ∧ fX10_front σm a1 = some qm ∧ qx.2 = qm.2 ∧ Inv qx.1 qm.1 := by
  obtain ⟨u, hn⟩ := h.1
  unfold fX9_front fX10_front
  rcases g_str hn with ⟨ok, e1, e2⟩ | ⟨e1, e2⟩
  · rw [e1, e2, if_neg one_n0, if_neg one_n0]
    rcases g_in (x := a1) (a := 0) (b := 60) (ax := 0) (bx := 60) (A := 0) (B := 60) rfl rfl rfl rfl (by decide) (by decide) with ⟨i1, e1, e2⟩ | ⟨_, e1, e2⟩
    · rw [e1, e2, if_neg one_n0, if_neg one_n0]
      obtain ⟨d, _, hd, rfl⟩ := inR_of i1
      have hd4 := ok.2
      have hT := now_T hn
      obtain ⟨τ, t1, t2, t3⟩ := tell_X (f := 11) (v := 36) (d := d) (most := 60) (by decide) (by decide) hn.1 ok.1 (by omega) (mo60 h) (by omega) (by decide) (by decide)
      have hx : VX τ 36 u := VX_fr hn.1 (fun k h1 h2 => t3 k (by omega))
      have okd := (ok_dys ok.1 (show u 4 + d ≤ 2000 by omega)).1
      have hb : ∀ q, q < 10 → dysN d u (15 + q) < 2 ^ 30 := fun q hq => by have := ok_la okd hq; omega
      refine ⟨(τ, ftI (fun r => dysN d u (15 + r)) (u 0)), (SM σm 6 (dysN d u), ftI (fun r => dysN d u (15 + r)) (u 0)), ?_, ?_, rfl, inv_sc h (fun k h1 _ => t3 k h1)⟩
      · unfold fX5_frontBehind
        rw [t1, bd_s, hx.1 0 (by decide)]
        simp only [un]
        rw [n32_1, front_LX (L := fun r => dysN d u (15 + r)) hT.1 (fun r hr => lavaIn_X t2 (Nat.le_refl _) hr hT.1 (by omega) (by show d * 10 + 10 ≤ 610; omega) (by decide)) (fun r hr => hb r (by omega)) (u 0) fu (Nat.le_refl _) (fu_gt (by omega)), bd_s]
      · rw [laysAside_M hn.2.1 ok.1 (by omega), bd_s, n32_0]
        exact front_LM hn.2.1 hT.1 hb (u 0) 0 fu (by omega) (fu_gt (by omega))
    · rw [e1, e2, if_pos rfl, if_pos rfl]
      exact ⟨_, _, rfl, rfl, rfl, h⟩
  · rw [e1, e2, if_pos rfl, if_pos rfl]
    exact ⟨_, _, rfl, rfl, rfl, h⟩
def cN (w : Nat) (U : Nat → Nat) (k : Nat) : Bool := if w = 0 then (U (53 + k) == 2 || (U (53 + k) == 0 && decide (0 < U (15 + U (47 + k))))) else if w = 1 then U (53 + k) == 2 else U (53 + k) == 1
def bI (b : Bool) : Int32 := if b then 1 else 0
theorem come_X {σ : Sto} {d i k w : Nat} {u : Nat → Nat} (ht : TL σ 11 u d) (hi : i ≤ d) (hd : d ≤ 60) (h : okV u) (h4 : u 4 + i ≤ 2000) (hk : k < u 1) (hw : w ≤ 2) : fX5_isCome σ (nI (whN (dysN i u) k)) (nI w) (nI i) = some (bI (cN w (dysN i u) k)) := by
  have okd := (ok_dys h h4).1
  have e0 : dysN i u 0 = u 0 := dys_lo (by decide) (by decide) i
  have e1 : dysN i u 1 = u 1 := dys_lo (by decide) (by decide) i
  have hk2 : k < dysN i u 1 := by rw [e1]; exact hk
  have hR := h.2.1
  obtain ⟨w1, w2, w3, w4, w5⟩ := wh_is okd hk2
  obtain ⟨c1, c2, c3⟩ := ok_wh okd hk2
  obtain ⟨a1, a2, a3, a4, a5, a6⟩ := okd.2.2.2.2.2.2.2.2.2.2.2 k hk2
  rw [e0] at a5
  have hla := ok_la okd (r := dysN i u (47 + k)) (by omega)
  have z0 : nI w = (0 : Int32) ↔ w = 0 := nI_eq (by omega) (by decide)
  have z1 : nI w = (1 : Int32) ↔ w = 1 := nI_eq (by omega) (by decide)
  unfold fX5_isCome cN
  rw [n32_30, n32_20]
  simp only [z0, z1]
  by_cases w0 : w = 0
  · rw [if_pos w0, if_pos w0]
    by_cases s2 : dysN i u (53 + k) = 2
    · rw [if_pos (nI_le (w2.mpr s2) (by omega)), s2]
      rfl
    · rw [if_neg (nI_ge (by have := mt w2.mp s2; omega) (by decide))]
      by_cases s0 : dysN i u (53 + k) = 0
      · have hwr := ((w4 (dysN i u (47 + k)) (by omega)).mpr ⟨s0, rfl⟩)
        rw [if_neg (nI_ge (w3.mpr s0) (by decide)), hwr, lavaIn_X ht hi a5 hR hd (by show d * 10 + 10 ≤ 610; omega) (by decide), bd_s, s0]
        by_cases c : 0 < dysN i u (15 + dysN i u (47 + k))
        · rw [if_neg (fun q => by have := (le0_n (by omega)).mp q; omega)]
          simp [c, bI]
        · rw [if_pos ((le0_n (by omega)).mpr (by omega))]
          simp [c, bI]
      · rw [if_pos (nI_le (by have := mt w3.mp s0; omega) (by omega))]
        simp [s2, s0, bI]
  · rw [if_neg w0, if_neg w0]
    by_cases ww1 : w = 1
    · rw [if_pos ww1, if_pos ww1]
      by_cases s2 : dysN i u (53 + k) = 2
      · rw [if_neg (nI_nlt (w2.mpr s2) (by omega)), s2]
        rfl
      · rw [if_pos (nI_lt (by have := mt w2.mp s2; omega) (by decide))]
        simp [s2, bI]
    · rw [if_neg ww1, if_neg ww1]
      by_cases s1 : dysN i u (53 + k) = 1
      · rw [if_pos (by rw [w1.mpr s1]), s1]
        rfl
      · rw [if_neg (fun q => s1 (w1.mp ((nI_eq (by omega) (by decide)).mp q)))]
        simp [s1, bI]
theorem so_M {σ : Sto} {k w : Nat} {U : Nat → Nat} (h : okV U) (hk : k < U 1) (hw : w ≤ 2) : fX10_isSo (SM σ 6 U) (nI k) (nI w) = some (bI (cN w U k)) := by
  have h1 := h.2.2.2.1
  have hR := h.2.1
  obtain ⟨a1, a2, a3, a4, a5, a6⟩ := h.2.2.2.2.2.2.2.2.2.2.2 k hk
  have hb : ∀ q, q < 10 → U (15 + q) < 2 ^ 30 := fun q hq => by have := ok_la h hq; omega
  have l0 := lies_M (σ := σ) (a := 6) (r := U (47 + k)) (k := 0) (u := U) (by omega) (by decide) hb
  rw [nI_sub0, Nat.sub_zero] at l0
  unfold fX10_isSo fX10_isSo_j61 cN
  rw [n32_53, n32_47, nI_add, nI_add, vin_t (by omega) (by decide), gd_t, vin_t (by omega) (by decide), gd_t, nI_clamp (by omega), nI_clamp (by omega), SM6 _ (by omega), SM6 _ (by omega), l0, bd_s]
  simp only [un]
  have s2 : nI (U (53 + k)) = (2 : Int32) ↔ U (53 + k) = 2 := nI_eq (by omega) (by decide)
  have s1 : nI (U (53 + k)) = (1 : Int32) ↔ U (53 + k) = 1 := nI_eq (by omega) (by decide)
  have s0 : nI (U (53 + k)) = (0 : Int32) ↔ U (53 + k) = 0 := nI_eq (by omega) (by decide)
  simp only [s2, s1, s0]
  have z0 : nI w = (0 : Int32) ↔ w = 0 := nI_eq (by omega) (by decide)
  have z1 : nI w = (1 : Int32) ↔ w = 1 := nI_eq (by omega) (by decide)
  simp only [z0, z1]
  by_cases w0 : w = 0
  · rw [if_pos w0, if_pos w0]
    by_cases c2 : U (53 + k) = 2
    · simp [c2, bI]
    · by_cases c0 : U (53 + k) = 0
      · by_cases c : 0 < U (15 + U (47 + k))
        · rw [if_pos (⟨Nat.zero_le _, c⟩ : 0 ≤ U (47 + k) ∧ 0 < U (15 + U (47 + k)))]
          simp [c0, c, bI]
          decide
        · rw [if_neg (show ¬ (0 ≤ U (47 + k) ∧ 0 < U (15 + U (47 + k))) from fun q => c q.2)]
          simp [c0, c, bI]
          rfl
      · simp [c2, c0, bI]
  · rw [if_neg w0, if_neg w0]
    by_cases ww1 : w = 1
    · rw [if_pos ww1, if_pos ww1]
      by_cases c2 : U (53 + k) = 2
      · simp [c2, bI]
      · simp [c2, bI]
    · rw [if_neg ww1, if_neg ww1]
      by_cases c1 : U (53 + k) = 1
      · simp [c1, bI]
      · simp [c1, bI]
theorem bI_t {b : Bool} (h : b = true) : ¬ bI b = 0 := by
  subst h
  decide
theorem bI_f {b : Bool} (h : b = false) : bI b = 0 := by
  subst h
  rfl
theorem when_L {τ σm : Sto} {k w : Nat} {u : Nat → Nat} (hx : VX τ 36 u) (h : okV u) (h4 : u 4 ≤ 999) (ht : TL τ 11 u 60) (hk : k < u 1) (hw : w ≤ 2) : ∀ (m i n n' : Nat), i + m = 60 → m < n → m + 1 < n' → ∃ j z, fX5_firstDay_L21 (fun σ_4 z_5 z_6 => bd (fX5_isCome σ_4 z_6 z_5 (60 : Int32)) fun q_7 => if q_7 = (0 : Int32) then some (σ_4, (-1000000 : Int32)) else some (σ_4, (60 : Int32))) 36 n τ (nI k) (nI w) (nI (whN (dysN i u) k)) (nI i) = some (τ, z) ∧ fX10_when_L30 n' (SM σm 6 (dysN i u)) (nI k) (nI w) (nI i) = some (SM σm 6 (dysN j u), z) := by
  have e1 : ∀ i, dysN i u 1 = u 1 := fun i => dys_lo (by decide) (by decide) i
  intro m
  induction m with
  | zero =>
    intro i n n' hi hn hn'
    obtain ⟨n, rfl⟩ : ∃ q, n = q + 1 := ⟨n - 1, by omega⟩
    obtain ⟨n', rfl⟩ : ∃ q, n' = q + 1 + 1 := ⟨n' - 2, by omega⟩
    obtain rfl : i = 60 := by omega
    have so := so_M (σ := σm) (U := dysN 60 u) (ok_dys h (by omega)).1 (by rw [e1]; exact hk) hw
    have co := come_X ht (Nat.le_refl _) (by decide) h (by omega) hk hw
    rw [fX5_firstDay_L21, n32_60, if_pos (nI_le (by omega) (by omega)), co, bd_s, fX10_when_L30, n32_61, if_neg (nI_ge (by omega) (by omega)), so, bd_s]
    by_cases c : cN w (dysN 60 u) k = true
    · rw [if_neg (bI_t c), if_neg (bI_t c)]
      exact ⟨60, _, rfl, rfl⟩
    · have c : cN w (dysN 60 u) k = false := by
        cases hh : cN w (dysN 60 u) k
        · rfl
        · exact absurd hh c
      rw [if_pos (bI_f c), if_pos (bI_f c), passes_M (ok_dys h (by omega)).1, bd_s]
      simp only [un]
      rw [n32_1, nI_add, fX10_when_L30, n32_61, if_pos (nI_le (by omega) (by omega))]
      exact ⟨61, _, rfl, rfl⟩
  | succ m ih =>
    intro i n n' hi hn hn'
    obtain ⟨n, rfl⟩ : ∃ q, n = q + 1 := ⟨n - 1, by omega⟩
    obtain ⟨n', rfl⟩ : ∃ q, n' = q + 1 := ⟨n' - 1, by omega⟩
    have so := so_M (σ := σm) (U := dysN i u) (ok_dys h (by omega)).1 (by rw [e1]; exact hk) hw
    have co := come_X ht (show i ≤ 60 by omega) (by decide) h (by omega) hk hw
    obtain ⟨c1, c2, c3⟩ := ok_whd (i := i) h (by omega) hk
    rw [fX5_firstDay_L21, n32_60, if_neg (nI_ge (by omega) (by omega)), co, bd_s, fX10_when_L30, n32_61, if_neg (nI_ge (by omega) (by omega)), so, bd_s]
    by_cases c : cN w (dysN i u) k = true
    · rw [if_neg (bI_t c), if_neg (bI_t c)]
      exact ⟨i, _, rfl, rfl⟩
    · have c : cN w (dysN i u) k = false := by
        cases hh : cN w (dysN i u) k
        · rfl
        · exact absurd hh c
      rw [if_pos (bI_f c), if_pos (bI_f c), passes_M (ok_dys h (by omega)).1, bd_s, pafter_X hx h ht (by omega) (by omega) (by decide) (by decide) (by decide) hk c1 c2, ← wh_dys h (by omega) hk, bd_s]
      simp only [un]
      rw [n32_1, nI_add]
      exact ih (i + 1) n n' (by omega) (by omega) (by omega)
theorem op_when {σx σm : Sto} (h : Inv σx σm) (a1 : Int32) (a2 : Int32) : ∃ qx qm, fX9_when σx a1 a2 = some qx ∧ fX10_when σm a1 a2 = some qm ∧ qx.2 = qm.2 ∧ Inv qx.1 qm.1 := by
  obtain ⟨u, hn⟩ := h.1
  unfold fX9_when fX10_when
  rcases g_thing hn a1 with ⟨i1, ok, e1, e2⟩ | ⟨_, e1, e2⟩
  · rw [e1, e2, if_neg one_n0, if_neg one_n0]
    rcases g_in (x := a2) (a := 0) (b := 2) (ax := 0) (bx := 2) (A := 0) (B := 2) rfl rfl rfl rfl (by decide) (by decide) with ⟨i2, e1, e2⟩ | ⟨_, e1, e2⟩
    · rw [e1, e2, if_neg one_n0, if_neg one_n0]
      obtain ⟨k, _, hk, rfl⟩ := inR_of i1
      obtain ⟨w, _, hw, rfl⟩ := inR_of i2
      have hd4 := ok.2
      have hT := now_T hn
      obtain ⟨τ, t1, t2, t3⟩ := tell_X (f := 11) (v := 36) (d := 60) (most := 60) (by decide) (by decide) hn.1 ok.1 (by omega) (mo60 h) (by omega) (by decide) (by decide)
      have hx : VX τ 36 u := VX_fr hn.1 (fun k h1 h2 => t3 k (by omega))
      obtain ⟨j, z, r1, r2⟩ := when_L (σm := σm) (w := w) hx ok.1 ok.2 t2 hk (by omega) 60 0 fu fu (by omega) (fu_gt (by decide)) (fu_gt (by decide))
      refine ⟨(τ, z), (SM σm 6 (dysN j u), z), ?_, ?_, rfl, inv_sc h (fun k h1 _ => t3 k h1)⟩
      · unfold fX5_firstDay
        rw [n32_60] at r1 ⊢
        rw [t1, bd_s, vin_t (by omega) (by decide), gd_t, nI_clamp (by omega), (hx.2.2 k hk).2.2.1]
        simp only [un]
        rw [show (0 : Int32) = nI 0 from rfl] at r1 ⊢
        refine (congrArg (fun o => bd o _) r1).trans ?_
        rfl
      · rw [aside_0 hn.2.1 ok.1, bd_s]
        exact r2
    · rw [e1, e2, if_pos rfl, if_pos rfl]
      exact ⟨_, _, rfl, rfl, rfl, h⟩
  · rw [e1, e2, if_pos rfl, if_pos rfl]
    exact ⟨_, _, rfl, rfl, rfl, h⟩
