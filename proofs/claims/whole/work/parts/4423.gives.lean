/-! how likely one is spared -/
theorem gcd_s (a b : Nat) : Nat.gcd a b = Nat.gcd b (a % b) := by
  rw [Nat.gcd_comm a b, Nat.gcd_rec b a, Nat.gcd_comm]
theorem lcmp_0 {b : Nat} (hb : b < 2 ^ 63) : lg_cmp (lN b) (0 : Int64) = (0 : Int32) ↔ b = 0 := by
  have h1 := lcmp_lt (lN b) 0
  have h2 := lcmp_gt (lN b) 0
  have e0 : (0 : Int64).toInt = 0 := by decide
  rw [pk_lT hb, e0] at h1 h2
  constructor
  · intro q
    rw [q] at h2
    have := h2.mpr
    by_cases c : b = 0
    · exact c
    · exact absurd (this (by omega)) (by decide)
  · intro q
    subst q
    decide
theorem lcmp_0le {b : Nat} (hb : b < 2 ^ 63) : lg_cmp (lN b) (0 : Int64) ≤ (0 : Int32) ↔ b = 0 := by
  rw [lcmp_le, pk_lT hb, show (0 : Int64).toInt = 0 by decide]
  omega
theorem gdX_L : ∀ (k a b j n : Nat), b ≤ a → a < 2 ^ k → k ≤ 62 → j + 2 * k ≤ 100 → 2 * k < n → fX5_greatestDivisor_L9 n (lN a) (lN b) (nI j) = some (lN (Nat.gcd a b)) := by
  intro k
  induction k with
  | zero =>
    intro a b j n hb ha hk hj hn
    obtain ⟨n, rfl⟩ : ∃ q, n = q + 1 := ⟨n - 1, by omega⟩
    have ha : a < 1 := ha
    have e1 : a = 0 := by omega
    have e2 : b = 0 := by omega
    subst e1
    subst e2
    rw [fX5_greatestDivisor_L9, n32_100]
    by_cases c : nI 100 ≤ nI j
    · rw [if_pos c]
      rfl
    · rw [if_neg c, if_pos (by decide)]
      rfl
  | succ k ih =>
    intro a b j n hb ha hk hj hn
    obtain ⟨n, rfl⟩ : ∃ q, n = q + 2 := ⟨n - 2, by omega⟩
    have h62 : 2 ^ (k + 1) ≤ 2 ^ 62 := Nat.pow_le_pow_right (by decide) hk
    have ha2 : a < 2 * 2 ^ k := by
      rw [Nat.pow_succ] at ha
      omega
    by_cases c0 : b = 0
    · subst c0
      rw [fX5_greatestDivisor_L9, n32_100, if_neg (nI_ge (by omega) (by omega)), if_pos (by decide), Nat.gcd_zero_right]
    · have hm : a % b < b := Nat.mod_lt _ (by omega)
      have hm2 : a % b ≤ a - b := by
        rw [Nat.mod_eq_sub_mod hb]
        exact Nat.mod_le _ _
      rw [fX5_greatestDivisor_L9, n32_100, if_neg (nI_ge (by omega) (by omega)), if_neg (fun q => c0 ((lcmp_0 (by omega)).mp q)), nzL_n (by omega) (by omega), gd_t, lrm_n (by omega) (by omega) (by omega), un_e, un_e, n32_1, nI_add, gcd_s]
      by_cases c1 : a % b = 0
      · rw [c1, fX5_greatestDivisor_L9, n32_100, if_neg (nI_ge (by omega) (by omega)), if_pos (by decide), Nat.gcd_zero_right]
      · have hm3 : b % (a % b) < a % b := Nat.mod_lt _ (by omega)
        rw [fX5_greatestDivisor_L9, n32_100, if_neg (nI_ge (by omega) (by omega)), if_neg (fun q => c1 ((lcmp_0 (by omega)).mp q)), nzL_n (by omega) (by omega), gd_t, lrm_n (by omega) (by omega) (by omega), un_e, un_e, n32_1, nI_add, gcd_s b (a % b)]
        exact ih (a % b) (b % (a % b)) (j + 1 + 1) n (by omega) (by omega) (by omega) (by omega) (by omega)
theorem gdM_L : ∀ (k a b n : Nat), b ≤ a → a < 2 ^ k → k ≤ 62 → 2 * k < n → fX10_divisor_L6 n (lN a) (lN b) = some (lN (Nat.gcd a b)) := by
  intro k
  induction k with
  | zero =>
    intro a b n hb ha hk hn
    obtain ⟨n, rfl⟩ : ∃ q, n = q + 1 := ⟨n - 1, by omega⟩
    have ha : a < 1 := ha
    have e1 : a = 0 := by omega
    have e2 : b = 0 := by omega
    subst e1
    subst e2
    rw [fX10_divisor_L6, if_pos (by decide)]
    rfl
  | succ k ih =>
    intro a b n hb ha hk hn
    obtain ⟨n, rfl⟩ : ∃ q, n = q + 2 := ⟨n - 2, by omega⟩
    have h62 : 2 ^ (k + 1) ≤ 2 ^ 62 := Nat.pow_le_pow_right (by decide) hk
    have ha2 : a < 2 * 2 ^ k := by
      rw [Nat.pow_succ] at ha
      omega
    by_cases c0 : b = 0
    · subst c0
      rw [fX10_divisor_L6, if_pos (by decide), Nat.gcd_zero_right]
    · have hm : a % b < b := Nat.mod_lt _ (by omega)
      have hm2 : a % b ≤ a - b := by
        rw [Nat.mod_eq_sub_mod hb]
        exact Nat.mod_le _ _
      rw [fX10_divisor_L6, if_neg (fun q => c0 ((lcmp_0 (by omega)).mp q)), nzL_n (by omega) (by omega), gd_t, lrm_n (by omega) (by omega) (by omega), un_e, gcd_s]
      by_cases c1 : a % b = 0
      · rw [c1, fX10_divisor_L6, if_pos (by decide), Nat.gcd_zero_right]
      · have hm3 : b % (a % b) < a % b := Nat.mod_lt _ (by omega)
        rw [fX10_divisor_L6, if_neg (fun q => c1 ((lcmp_0 (by omega)).mp q)), nzL_n (by omega) (by omega), gd_t, lrm_n (by omega) (by omega) (by omega), un_e, gcd_s b (a % b)]
        exact ih (a % b) (b % (a % b)) n (by omega) (by omega) (by omega) (by omega)
theorem gdX_1 {a b n : Nat} (ha : a < 2 ^ 44) (hb : b < 2 ^ 44) (hn : 100 < n) : fX5_greatestDivisor_L9 n (lN a) (lN b) (nI 0) = some (lN (Nat.gcd a b)) := by
  obtain ⟨n, rfl⟩ : ∃ q, n = q + 1 := ⟨n - 1, by omega⟩
  by_cases c0 : b = 0
  · subst c0
    rw [fX5_greatestDivisor_L9, n32_100, if_neg (nI_ge (by omega) (by omega)), if_pos (by decide), Nat.gcd_zero_right]
  · have hm : a % b < b := Nat.mod_lt _ (by omega)
    rw [fX5_greatestDivisor_L9, n32_100, if_neg (nI_ge (by omega) (by omega)), if_neg (fun q => c0 ((lcmp_0 (by omega)).mp q)), nzL_n (by omega) (by omega), gd_t, lrm_n (by omega) (by omega) (by omega), un_e, un_e, n32_1, nI_add, gcd_s]
    exact gdX_L 44 b (a % b) (0 + 1) n (by omega) hb (by omega) (by omega) (by omega)
theorem gdM_1 {a b n : Nat} (ha : a < 2 ^ 44) (hb : b < 2 ^ 44) (hn : 100 < n) : fX10_divisor_L6 n (lN a) (lN b) = some (lN (Nat.gcd b a)) := by
  obtain ⟨n, rfl⟩ : ∃ q, n = q + 1 := ⟨n - 1, by omega⟩
  rw [Nat.gcd_comm]
  by_cases c0 : b = 0
  · subst c0
    rw [fX10_divisor_L6, if_pos (by decide), Nat.gcd_zero_right]
  · have hm : a % b < b := Nat.mod_lt _ (by omega)
    rw [fX10_divisor_L6, if_neg (fun q => c0 ((lcmp_0 (by omega)).mp q)), nzL_n (by omega) (by omega), gd_t, lrm_n (by omega) (by omega) (by omega), un_e, gcd_s]
    exact gdM_L 44 b (a % b) n (by omega) hb (by omega) (by omega)
theorem gd_X {a b : Nat} (ha : a < 2 ^ 44) (hb : b < 2 ^ 44) : fX5_greatestDivisor (lN a) (lN b) = some (lN (Nat.gcd a b)) := by
  unfold fX5_greatestDivisor
  exact gdX_1 ha hb (fu_gt (by decide))
theorem gd_M {a b : Nat} (ha : a < 2 ^ 44) (hb : b < 2 ^ 44) : fX10_divisor (lN a) (lN b) = some (lN (Nat.gcd b a)) := by
  unfold fX10_divisor
  exact gdM_1 ha hb (fu_gt (by decide))
/-! walls and cases -/
def wpN (u : Nat → Nat) : Nat → Bool := fun r => !(u (25 + r) == 0)
def cnN (p : Nat → Bool) (n : Nat) : Nat := smN (fun r => if p r then 1 else 0) n
theorem cn_le (p : Nat → Bool) : ∀ n, cnN p n ≤ n
  | 0 => Nat.le_refl _
  | n + 1 => by
    have := cn_le p n
    show cnN p n + (if p n then 1 else 0) ≤ n + 1
    split <;> omega
theorem pw_1 : ∀ {k : Nat}, 0 < k → pw k 1 = 1
  | 0, h => by omega
  | k + 1, _ => by
    show 1 % 2 + pw k (1 / 2) = 1
    rw [show 1 / 2 = 0 from rfl, pw_z]
theorem pw_bt (p : Nat → Bool) : ∀ {n : Nat}, n ≤ 24 → pw 24 (btN p n) = cnN p n
  | 0, _ => pw_z 24
  | n + 1, h => by
    have ih := pw_bt p (n := n) (by omega)
    have hl := bt_lt p n
    have e : btN p (n + 1) = btN p n + (if p n then 2 ^ n else 0) := rfl
    have h1 := pw_add n (24 - n) (btN p n)
    have h2 := pw_add n (24 - n) (btN p (n + 1))
    rw [show n + (24 - n) = 24 by omega] at h1 h2
    rw [Nat.mod_eq_of_lt hl, Nat.div_eq_of_lt hl, pw_z, Nat.add_zero] at h1
    show _ = cnN p n + (if p n then 1 else 0)
    by_cases c : p n = true
    · rw [if_pos c] at e ⊢
      rw [h2, e, Nat.add_mod_right, Nat.mod_eq_of_lt hl, Nat.add_div_right _ (Nat.two_pow_pos n), Nat.div_eq_of_lt hl, pw_1 (by omega), ← h1, ih]
    · rw [if_neg c] at e ⊢
      rw [e, Nat.add_zero, Nat.add_zero]
      exact ih
theorem wallsX_L {σ : Sto} {u : Nat → Nat} (hx : VX σ 36 u) (h : okV u) : ∀ (m k n : Nat), k + m = u 0 → m < n → fX5_wallsThatStand_L4 36 σ n (nI (btN (wpN u) k)) (nI k) = some (nI (btN (wpN u) (u 0))) := by
  have h0 := h.2.1
  intro m
  induction m with
  | zero =>
    intro k n hk hn
    obtain ⟨n, rfl⟩ : ∃ q, n = q + 1 := ⟨n - 1, by omega⟩
    rw [fX5_wallsThatStand_L4, hx.1 0 (by decide), if_pos (nI_le (by omega) (by omega)), show k = u 0 by omega]
  | succ m ih =>
    intro k n hk hn
    obtain ⟨n, rfl⟩ : ∃ q, n = q + 1 := ⟨n - 1, by omega⟩
    have hw := h.2.2.2.2.2.2.2.2.1 k (by omega)
    have ih' := ih (k + 1) n (by omega) (by omega)
    rw [fX5_wallsThatStand_L4, hx.1 0 (by decide), if_neg (nI_ge (by omega) (by omega)), vin_t (by omega) (by decide), gd_t, nI_clamp (by omega), (hx.2.1 k (by omega)).2.2]
    simp only [un]
    rw [or0, n32_1, shl1_n (by omega), or_n, nI_add]
    by_cases c : u (25 + k) = 0
    · rw [if_pos (show nI (u (25 + k)) = (0 : Int32) by rw [c]; rfl), bt_no (wpN u) k (by unfold wpN; rw [c]; rfl)]
      exact ih'
    · rw [if_neg (nI_n0 (by omega) c), bt_or (wpN u) k (by unfold wpN; rw [beq_eq_false_iff_ne.mpr c]; rfl)]
      exact ih'
theorem L12_X {σ : Sto} {b c : Nat} {x2 x3 x4 x5 : Int32} (kk : Sto → Int32 → Int32 → Int32 → Int32 → Int32 → Int64 → Option (Sto × Int64)) (hb : fJ6_bitCount_0f7a4 (nI b) = nI c) (hc : c ≤ 100) : ∀ (m j n : Nat), j + m = c → m < n → fX5_likelySpared_L12 kk 36 n σ x2 x3 x4 x5 (nI b) (lN (10 ^ j)) (nI j) = kk σ x2 x3 x4 x5 (nI b) (lN (10 ^ c)) := by
  intro m
  induction m with
  | zero =>
    intro j n hj hn
    obtain ⟨n, rfl⟩ : ∃ q, n = q + 1 := ⟨n - 1, by omega⟩
    rw [fX5_likelySpared_L12, hb, if_pos (nI_le (by omega) (by omega)), show j = c by omega]
  | succ m ih =>
    intro j n hj hn
    obtain ⟨n, rfl⟩ : ∃ q, n = q + 1 := ⟨n - 1, by omega⟩
    rw [fX5_likelySpared_L12, hb, if_neg (nI_ge (by omega) (by omega)), un_e, un_e, show (10 : Int64) = lN 10 from rfl, lN_mul, n32_1, nI_add, ← Nat.pow_succ]
    exact ih (j + 1) n (by omega) (by omega)
theorem L53_M {σ : Sto} {u : Nat → Nat} {x1 x2 x3 x4 : Int32} (kk : Sto → Int32 → Int32 → Int32 → Int32 → Int32 → Int64 → Option (Sto × Int64)) (hu : ∀ j, j < 59 → σ 4 j = nI (u j)) (h : okV u) : ∀ (m k n : Nat), k + m = u 0 → m < n → fX10_gives_L53 kk n σ x1 x2 x3 x4 (nI (btN (wpN u) k)) (lN (10 ^ cnN (wpN u) k)) (nI k) = kk σ x1 x2 x3 x4 (nI (btN (wpN u) (u 0))) (lN (10 ^ cnN (wpN u) (u 0))) := by
  have h0 := h.2.1
  intro m
  induction m with
  | zero =>
    intro k n hk hn
    obtain ⟨n, rfl⟩ : ∃ q, n = q + 1 := ⟨n - 1, by omega⟩
    rw [fX10_gives_L53, hu 0 (by decide), if_pos (nI_le (by omega) (by omega)), show k = u 0 by omega]
  | succ m ih =>
    intro k n hk hn
    obtain ⟨n, rfl⟩ : ∃ q, n = q + 1 := ⟨n - 1, by omega⟩
    have hw := h.2.2.2.2.2.2.2.2.1 k (by omega)
    have ih' := ih (k + 1) n (by omega) (by omega)
    have ec : cnN (wpN u) (k + 1) = cnN (wpN u) k + (if wpN u k then 1 else 0) := rfl
    rw [fX10_gives_L53, hu 0 (by decide), if_neg (nI_ge (by omega) (by omega))]
    unfold fX10_gives_j87
    rw [un_e, un_e, un_e, un_e, un_e, un_e, un_e, un_e, un_e, un_e, n32_25, nI_add, vin_t (by omega) (by decide)]
    simp only [gd_t]
    rw [nI_clamp (by omega), hu _ (by omega), or0, n32_1, shl1_n (by omega), or_n, nI_add, show (1 : Int64) = lN 1 from rfl, show (10 : Int64) = lN 10 from rfl, lN_mul, lN_mul, Nat.mul_one, ← Nat.pow_succ]
    by_cases c : u (25 + k) = 0
    · have hp : wpN u k = false := by
        unfold wpN
        rw [c]
        rfl
      rw [if_pos (show nI (u (25 + k)) = (0 : Int32) by rw [c]; rfl), if_pos (show nI (u (25 + k)) = (0 : Int32) by rw [c]; rfl), bt_no (wpN u) k hp]
      rw [ec, hp, if_neg (by decide), Nat.add_zero] at ih'
      exact ih'
    · have hp : wpN u k = true := by
        unfold wpN
        rw [beq_eq_false_iff_ne.mpr c]
        rfl
      rw [if_neg (nI_n0 (by omega) c), if_neg (nI_n0 (by omega) c), bt_or (wpN u) k hp]
      rw [ec, hp, if_pos rfl] at ih'
      exact ih'
/-- how many cases, of all, the walls that give way are just these -/
def csN (p walls gone : Nat) : Nat → Nat
  | 0 => 1
  | k + 1 => csN p walls gone k * (if walls / 2 ^ k % 2 = 1 then (if gone / 2 ^ k % 2 = 1 then p else 10 - p) else 1)
theorem cs_le {p walls gone : Nat} (hp : p ≤ 10) : ∀ k, csN p walls gone k ≤ 10 ^ k
  | 0 => Nat.le_refl _
  | k + 1 => by
    rw [Nat.pow_succ]
    refine Nat.mul_le_mul (cs_le hp k) ?_
    split
    · split <;> omega
    · omega
theorem cs_more {p walls gone k : Nat} (h : walls < 2 ^ k) : ∀ m, csN p walls gone (k + m) = csN p walls gone k
  | 0 => rfl
  | m + 1 => by
    have h2 : 2 ^ k ≤ 2 ^ (k + m) := Nat.pow_le_pow_right (by decide) (by omega)
    show csN p walls gone (k + m) * (if walls / 2 ^ (k + m) % 2 = 1 then (if gone / 2 ^ (k + m) % 2 = 1 then p else 10 - p) else 1) = _
    rw [cs_more h m, Nat.div_eq_of_lt (by omega), if_neg (by decide), Nat.mul_one]
theorem cases_LX {p walls gone : Nat} (hp : p ≤ 10) (hw : walls < 2 ^ 31) (hg : gone < 2 ^ 31) : ∀ (m k n : Nat), k + m = 10 → m < n → fX5_casesOf_L5 n (nI walls) (nI gone) (nI p) (lN (csN p walls gone k)) (nI k) = some (lN (csN p walls gone 10)) := by
  intro m
  induction m with
  | zero =>
    intro k n hk hn
    obtain ⟨n, rfl⟩ : ∃ q, n = q + 1 := ⟨n - 1, by omega⟩
    rw [fX5_casesOf_L5, n32_10, if_pos (nI_le (by omega) (by omega)), show k = 10 by omega]
  | succ m ih =>
    intro k n hk hn
    obtain ⟨n, rfl⟩ : ∃ q, n = q + 1 := ⟨n - 1, by omega⟩
    have ih' := ih (k + 1) n (by omega) (by omega)
    have ec : csN p walls gone (k + 1) = csN p walls gone k * (if walls / 2 ^ k % 2 = 1 then (if gone / 2 ^ k % 2 = 1 then p else 10 - p) else 1) := rfl
    rw [fX5_casesOf_L5, n32_10, if_neg (nI_ge (by omega) (by omega)), bit_n (by omega) hw, bit_n (by omega) hg, pk_sub hp, nI_l (by omega), nI_l (by omega), n32_1, nI_add, lN_mul, lN_mul]
    simp only [un]
    by_cases c : walls / 2 ^ k % 2 = 1
    · rw [if_pos (show nI (walls / 2 ^ k % 2) = nI 1 by rw [c])]
      rw [ec, if_pos c] at ih'
      by_cases d : gone / 2 ^ k % 2 = 1
      · rw [if_pos (show nI (gone / 2 ^ k % 2) = nI 1 by rw [d])]
        rw [if_pos d] at ih'
        exact ih'
      · rw [if_neg (fun q => d ((nI_eq (by omega) (by decide)).mp q))]
        rw [if_neg d] at ih'
        exact ih'
    · rw [if_neg (fun q => c ((nI_eq (by omega) (by decide)).mp q))]
      rw [ec, if_neg c, Nat.mul_one] at ih'
      exact ih'
/-- the street without the walls that gave way -/
def gwN (u : Nat → Nat) (gone : Nat) : Nat → (Nat → Nat)
  | 0 => u
  | k + 1 => if gone / 2 ^ k % 2 = 1 then va_up (gwN u gone k) (25 + k) 0 else gwN u gone k
theorem gw_o {u : Nat → Nat} {gone j : Nat} (h : j < 25 ∨ 35 ≤ j) : ∀ {k : Nat}, k ≤ 10 → gwN u gone k j = u j
  | 0, _ => rfl
  | k + 1, hk => by
    have ih := gw_o (u := u) (gone := gone) h (k := k) (by omega)
    rw [gwN]
    split
    · rw [vu_ne (by omega), ih]
    · exact ih
theorem gw_ok {u : Nat → Nat} {gone : Nat} (h : okV u) : ∀ {k : Nat}, k ≤ 10 → okV (gwN u gone k)
  | 0, _ => h
  | k + 1, hk => by
    have ih := gw_ok (u := u) (gone := gone) h (k := k) (by omega)
    rw [gwN]
    split
    · exact okV_a ih (by omega)
    · exact ih
theorem L164_M {ρ : Sto} {u : Nat → Nat} {p walls gone : Nat} {x1 x2 x4 : Int32} {x6 x8 : Int64} (kk : Sto → Int32 → Int32 → Int32 → Int32 → Int32 → Int64 → Int64 → Int32 → Int64 → Option (Sto × Int64)) (hR : ρ 4 0 = nI (u 0)) (h : okV u) (hp : p ≤ 10) (hw : walls < 2 ^ 31) (hg : gone < 2 ^ 31) : ∀ (m k n : Nat), k + m = u 0 → m < n → fX10_gives_L164 kk n (SM ρ 6 (gwN u gone k)) x1 x2 (nI p) x4 (nI walls) x6 x8 (nI gone) (lN (csN p walls gone k)) (nI k) = kk (SM ρ 6 (gwN u gone (u 0))) x1 x2 (nI p) x4 (nI walls) x6 x8 (nI gone) (lN (csN p walls gone (u 0))) := by
  have h0 := h.2.1
  have hR' : ∀ w, SM ρ 6 w 4 0 = nI (u 0) := fun w => by rw [SM_ne (by decide)]; exact hR
  intro m
  induction m with
  | zero =>
    intro k n hk hn
    obtain ⟨n, rfl⟩ : ∃ q, n = q + 1 := ⟨n - 1, by omega⟩
    rw [fX10_gives_L164, hR', if_pos (nI_le (by omega) (by omega)), show k = u 0 by omega]
  | succ m ih =>
    intro k n hk hn
    obtain ⟨n, rfl⟩ : ∃ q, n = q + 1 := ⟨n - 1, by omega⟩
    have ih' := ih (k + 1) n (by omega) (by omega)
    have ec : csN p walls gone (k + 1) = csN p walls gone k * (if walls / 2 ^ k % 2 = 1 then (if gone / 2 ^ k % 2 = 1 then p else 10 - p) else 1) := rfl
    have eg : gwN u gone (k + 1) = if gone / 2 ^ k % 2 = 1 then va_up (gwN u gone k) (25 + k) 0 else gwN u gone k := rfl
    have j212 : ∀ c : Nat, fX10_gives_j212 (fX10_gives_L164 kk n) (SM ρ 6 (gwN u gone k)) x1 x2 (nI p) x4 (nI walls) x6 x8 (nI gone) (nI k) (lN (csN p walls gone k)) (lN c) = fX10_gives_L164 kk n (SM ρ 6 (gwN u gone (k + 1))) x1 x2 (nI p) x4 (nI walls) x6 x8 (nI gone) (lN (csN p walls gone k * c)) (nI (k + 1)) := by
      intro c
      unfold fX10_gives_j212
      rw [un_e, lN_mul, has_n (by omega) hg, n32_25, nI_add, vin_t (by omega) (by decide), gd_t, gd_t, nI_clamp (by omega), un_e, un_e, un_e, un_e, SM_at (by omega), SM_up (by omega), vu_id, n32_1, nI_add, n32_0, SM_up (by omega)]
      by_cases d : gone / 2 ^ k % 2 = 1
      · rw [if_neg (by rw [d]; decide), eg, if_pos d]
      · rw [if_pos (by rw [show gone / 2 ^ k % 2 = 0 by omega]), eg, if_neg d]
    rw [fX10_gives_L164, hR', if_neg (nI_ge (by omega) (by omega)), has_n (by omega) hw, has_n (by omega) hg, nI_l (by omega), show (10 : Int64) = lN 10 from rfl, lN_sub hp, show (1 : Int64) = lN 1 from rfl, j212, j212, j212]
    by_cases c : walls / 2 ^ k % 2 = 1
    · rw [if_neg (show ¬ nI (walls / 2 ^ k % 2) = (0 : Int32) by rw [c]; decide)]
      rw [ec, if_pos c] at ih'
      by_cases d : gone / 2 ^ k % 2 = 1
      · rw [if_neg (show ¬ nI (gone / 2 ^ k % 2) = (0 : Int32) by rw [d]; decide)]
        rw [if_pos d] at ih'
        exact ih'
      · rw [if_pos (show nI (gone / 2 ^ k % 2) = (0 : Int32) by rw [show gone / 2 ^ k % 2 = 0 by omega]; rfl)]
        rw [if_neg d] at ih'
        exact ih'
    · rw [if_pos (show nI (walls / 2 ^ k % 2) = (0 : Int32) by rw [show walls / 2 ^ k % 2 = 0 by omega]; rfl)]
      rw [ec, if_neg c] at ih'
      exact ih'
