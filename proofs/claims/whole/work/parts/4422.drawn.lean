/-! years by draws -/
theorem bt_tb (p : Nat → Bool) (n i : Nat) : (btN p n).testBit i = (decide (i < n) && p i) := by
  rw [Nat.testBit_eq_decide_div_mod_eq]
  by_cases h : i < n
  · rw [bt_bit p h, decide_eq_true h, Bool.true_and]
    cases p i <;> rfl
  · have := bt_lt p n
    have h2 : 2 ^ n ≤ 2 ^ i := Nat.pow_le_pow_right (by decide) (by omega)
    rw [decide_eq_false h, Bool.false_and, Nat.div_eq_of_lt (by omega)]
    rfl
theorem bt_and (p q : Nat → Bool) (n : Nat) : btN p n &&& btN q n = btN (fun k => p k && q k) n := by
  apply Nat.eq_of_testBit_eq
  intro i
  rw [Nat.testBit_and, bt_tb, bt_tb, bt_tb]
  cases decide (i < n) <;> cases p i <;> cases q i <;> rfl
theorem bt_sub (p q : Nat → Bool) : ∀ n, btN p n - btN (fun k => q k && p k) n = btN (fun k => p k && !q k) n ∧ btN (fun k => q k && p k) n ≤ btN p n
  | 0 => ⟨rfl, Nat.le_refl _⟩
  | n + 1 => by
    obtain ⟨h1, h2⟩ := bt_sub p q n
    show btN p n + (if p n then 2 ^ n else 0) - (btN (fun k => q k && p k) n + (if (q n && p n) then 2 ^ n else 0)) = btN (fun k => p k && !q k) n + (if (p n && !q n) then 2 ^ n else 0) ∧ btN (fun k => q k && p k) n + (if (q n && p n) then 2 ^ n else 0) ≤ btN p n + (if p n then 2 ^ n else 0)
    generalize 2 ^ n = z
    cases p n <;> cases q n <;> simp only [Bool.false_and, Bool.and_false, Bool.and_true, Bool.not_true, Bool.not_false, Bool.false_eq_true, if_false, if_true, Nat.add_zero] <;> omega
theorem new_M (p q : Nat → Bool) (n : Nat) : nI (btN p n) &&& (nI (btN q n) ^^^ (-1 : Int32)) = nI (btN (fun k => p k && !q k) n) := by
  obtain ⟨h1, h2⟩ := bt_sub p q n
  rw [Int32.and_comm, i_na, and_n, bt_and, pk_sub h2, h1]
/-- who became so on a day, told in both ways -/
theorem new_eq {w : Nat → Nat} {s : Nat} (h : okV w) (hs : s = 1 ∨ s = 2) : btN (fun k => w (53 + k) == 0 && dayN w (53 + k) == s) (w 1) = btN (fun k => dayN w (53 + k) == s && !(w (53 + k) == s)) (w 1) := by
  refine bt_congr (fun k hk => ?_)
  have h1 := h.2.2.2.1
  obtain ⟨a1, a2, a3, a4, a5, a6⟩ := h.2.2.2.2.2.2.2.2.2.2.2 k hk
  rw [day_is (by omega), Bool.eq_iff_iff]
  simp only [Bool.and_eq_true, beq_iff_eq, Bool.not_eq_true', beq_eq_false_iff_ne]
  unfold isN
  by_cases c : w (53 + k) = 0
  · rw [if_pos ⟨hk, c⟩]
    constructor
    · rintro ⟨_, q⟩
      exact ⟨q, by omega⟩
    · rintro ⟨q, _⟩
      exact ⟨c, q⟩
  · rw [if_neg (fun q => c q.2)]
    constructor
    · rintro ⟨q, _⟩
      exact absurd q c
    · rintro ⟨q, q2⟩
      exact absurd q q2
theorem l_i {a : Nat} (h : a < 2 ^ 31) : (lN a).toInt32 = nI a := by
  rw [← nI_l h]
  simp
theorem lrm_n {a b : Nat} (ha : a < 2 ^ 63) (h0 : 0 < b) (hb : b < 2 ^ 63) : lrm (lN a) (lN b) = lN (a % b) := pk_lRem ha h0 hb
theorem nzL_n {a : Nat} (h : a < 2 ^ 63) (h0 : 0 < a) : nzL (lN a) = true := by
  unfold nzL
  refine decide_eq_true (fun q => ?_)
  have := (pk_lEQ (a := a) (b := 0) h (by decide)).mp q
  omega
/-- a street of which a thing was set down anew -/
theorem plE_2 (u : Nat → Nat) (k x y : Nat) : plE u (va_up (va_up u (53 + k) x) (47 + k) y) k := fun j h1 h2 => by rw [vu_ne h1, vu_ne h2]
theorem draw_K {τ ρ : Sto} {u : Nat → Nat} {x : Nat} (hx : VX τ 260 u) (h : okV u) (hxx : x < 2 ^ 31) (hT : ρ 4 1 = nI (u 1)) (hR : ρ 4 0 = nI (u 0)) : ∃ w τ', okV w ∧ (∀ j, j < 47 → w j = u j) ∧ fX5_draw_j23 τ (lN x) = some τ' ∧ VX τ' 260 w ∧ (∀ k, (k < 260 ∨ 268 ≤ k) → τ' k = τ k) ∧ ∀ (kk : Sto → Int32 → Int32 → Int64 → Int32 → Int32 → Option (Sto × Int32)) (x1 x4 x7 x8 : Int32), (gd (nzL ((SM ρ 6 u 4 1).toInt64)) (un ((lrm (lN x) ((SM ρ 6 u 4 1).toInt64)).toInt32) fun x_4 => gd (vin ((53 : Int32) + x_4) 59) (if (SM ρ 6 u 6 ((53 : Int32) + x_4).toNatClampNeg) = (0 : Int32) then fX10_drawn_j179 kk (SM ρ 6 u) x1 x4 (lN x) x7 x8 else un (up (SM ρ 6 u) 6 (((53 : Int32) + x_4).toNatClampNeg) (0 : Int32)) fun σ_12 => gd (nzL ((σ_12 4 0).toInt64)) (gd (vin ((47 : Int32) + x_4) 59) (un (up σ_12 6 (((47 : Int32) + x_4).toNatClampNeg) ((lrm (lN x) ((σ_12 4 0).toInt64)).toInt32)) fun σ_15 => fX10_drawn_j179 kk σ_15 x1 x4 (lN x) x7 x8))))) = fX10_drawn_j179 kk (SM ρ 6 w) x1 x4 (lN x) x7 x8 := by
  have h0 := h.2.1
  have h3 := h.1
  have h1 := h.2.2.2.1
  have h11 := h.2.2.1
  have hk : x % u 1 < u 1 := Nat.mod_lt _ (by omega)
  have hr : x % u 0 < u 0 := Nat.mod_lt _ (by omega)
  obtain ⟨a1, a2, a3, a4, a5, a6⟩ := h.2.2.2.2.2.2.2.2.2.2.2 (x % u 1) hk
  have eT : SM ρ 6 u 4 1 = nI (u 1) := by rw [SM_ne (by decide)]; exact hT
  have eR : ∀ j y, up (SM ρ 6 u) 6 j y 4 0 = nI (u 0) := fun j y => by rw [up_k (by decide), SM_ne (by decide)]; exact hR
  have X1 : fX5_draw_j23 τ (lN x) = (if nI (if u (53 + x % u 1) = 0 then 1 else 0) = (0 : Int32) then (bd (fX8_place τ 260 (nI (x % u 1)) (nI (x % u 0))) fun q_5 => some q_5) else some τ) := by
    unfold fX5_draw_j23
    rw [hx.1 1 (by decide), hx.1 0 (by decide), nI_l (by omega), nI_l (by omega), nzL_n (a := u 1) (by omega) (by omega), gd_t, un_e, nzL_n (a := u 0) (by omega) (by omega), lrm_n (b := u 1) (by omega) (by omega) (by omega), lrm_n (b := u 0) (by omega) (by omega) (by omega), l_i (a := x % u 1) (by omega), l_i (a := x % u 0) (by omega), stands_X hx h hk, bd_s, gd_t]
  by_cases c : u (53 + x % u 1) = 0
  · refine ⟨u, τ, h, fun _ _ => rfl, ?_, hx, fun _ _ => rfl, fun kk x1 x4 x7 x8 => ?_⟩
    · rw [X1, if_pos c, if_neg (by decide)]
    · rw [eT, nI_l (by omega), nzL_n (by omega) (by omega), gd_t, lrm_n (by omega) (by omega) (by omega), l_i (by omega), un_e, n32_53, nI_add, vin_t (by omega) (by decide), gd_t, nI_clamp (by omega), SM_at (by omega), if_pos (show nI (u (53 + x % u 1)) = (0 : Int32) by rw [c]; rfl)]
  · have hE := plE_2 u (x % u 1) 0 (x % u 0)
    have e53 : va_up (va_up u (53 + x % u 1) 0) (47 + x % u 1) (x % u 0) (53 + x % u 1) = 0 := by rw [vu_ne (by omega), vu_self]
    have e47 : va_up (va_up u (53 + x % u 1) 0) (47 + x % u 1) (x % u 0) (47 + x % u 1) = x % u 0 := vu_self _ _ _
    obtain ⟨τ', s1, s2, s3⟩ := VX_pl (w := va_up (va_up u (53 + x % u 1) 0) (47 + x % u 1) (x % u 0)) (p := x % u 0) hx h0 h1 hk hE (Or.inl (by omega)) (by omega) (by rw [wh_0 e53, e47]) (by
      rw [e47]
      unfold laN
      rw [if_neg (by omega), if_pos (by omega)])
    refine ⟨_, τ', okV_pl h hk hE (by rw [e47]; exact hr) (by rw [e53]; omega), fun j hj => hE j (by omega) (by omega), ?_, s2, fun k hk => s3 k (by omega) (by omega), fun kk x1 x4 x7 x8 => ?_⟩
    · rw [X1, if_neg c, if_pos (by decide), s1, bd_s]
    · rw [eT, nI_l (by omega), nzL_n (by omega) (by omega), gd_t, lrm_n (by omega) (by omega) (by omega), l_i (by omega), un_e, n32_53, nI_add, vin_t (by omega) (by decide), gd_t, nI_clamp (by omega), SM_at (by omega), if_neg (nI_n0 (by omega) c), un_e, eR, nI_l (by omega), nzL_n (by omega) (by omega), gd_t, n32_47, nI_add, vin_t (by omega) (by decide), gd_t, nI_clamp (by omega), un_e, lrm_n (by omega) (by omega) (by omega), l_i (by omega), n32_0, SM_up (by omega), SM_up (by omega)]
theorem draw_J {τ ρ : Sto} {u : Nat → Nat} {x : Nat} (hx : VX τ 260 u) (h : okV u) (hxx : x < 2 ^ 31) (hT : ρ 4 1 = nI (u 1)) (hR : ρ 4 0 = nI (u 0)) : ∃ w τ', okV w ∧ (w 0 = u 0 ∧ w 1 = u 1 ∧ w 4 = u 4) ∧ fX5_draw τ (lN x) = some τ' ∧ VX τ' 260 w ∧ (∀ k, (k < 260 ∨ 268 ≤ k) → τ' k = τ k) ∧ ∀ (kk : Sto → Int32 → Int32 → Int64 → Int32 → Int32 → Option (Sto × Int32)) (x1 x4 x7 x8 : Int32), (if (lg_cmp (lrm (lN x) (3 : Int64)) (0 : Int64)) = (0 : Int32) then fX10_drawn_j120 kk (SM ρ 6 u) x1 x4 (lN x) x7 x8 (2 : Int32) ((lrm (lN x) (10 : Int64)).toInt32) else fX10_drawn_j120 kk (SM ρ 6 u) x1 x4 (lN x) x7 x8 (2 : Int32) (SM ρ 6 u 6 2)) = fX10_drawn_j179 kk (SM ρ 6 w) x1 x4 (lN x) x7 x8 := by
  unfold fX5_draw fX10_drawn_j120
  have e10 : (lrm (lN x) (10 : Int64)).toInt32 = nI (x % 10) := by
    rw [show (10 : Int64) = lN 10 from rfl, lrm_n (by omega) (by decide) (by decide), l_i (by omega)]
  have v2 : vin (2 : Int32) 59 = true := vin_t (a := 2) (by decide) (by decide)
  have c2 : (2 : Int32).toNatClampNeg = 2 := nI_clamp (n := 2) (by decide)
  by_cases c : (lg_cmp (lrm (lN x) (3 : Int64)) (0 : Int64)) = (0 : Int32)
  · have hx2 : VX (up τ 260 2 (nI (x % 10))) 260 (va_up u 2 (x % 10)) := VX_feed hx
    have ok2 : okV (va_up u 2 (x % 10)) := okV_a h (by omega)
    obtain ⟨w, τ', w1, w2, w3, w4, w5, w6⟩ := draw_K (ρ := ρ) (x := x) hx2 ok2 hxx (by rw [vu_ne (by decide)]; exact hT) (by rw [vu_ne (by decide)]; exact hR)
    refine ⟨w, τ', w1, ⟨by rw [w2 0 (by decide), vu_ne (by decide)], by rw [w2 1 (by decide), vu_ne (by decide)], by rw [w2 4 (by decide), vu_ne (by decide)]⟩, ?_, w4, fun k hk => by rw [w5 k hk, up_k (by omega)], fun kk x1 x4 x7 x8 => ?_⟩
    · rw [if_pos c, un_e, e10]
      exact w3
    · rw [if_pos c, v2, gd_t, c2, un_e, e10, SM_up (by decide)]
      exact w6 kk x1 x4 x7 x8
  · obtain ⟨w, τ', w1, w2, w3, w4, w5, w6⟩ := draw_K (ρ := ρ) (x := x) hx h hxx hT hR
    refine ⟨w, τ', w1, ⟨w2 0 (by decide), w2 1 (by decide), w2 4 (by decide)⟩, ?_, w4, w5, fun kk x1 x4 x7 x8 => ?_⟩
    · rw [if_neg c]
      exact w3
    · rw [if_neg c, v2, gd_t, c2, un_e, SM_at (show 2 < 59 by decide), SM_up (by decide), vu_id]
      exact w6 kk x1 x4 x7 x8
def xN (x : Nat) : Nat := x * 16807 % 2147483647
theorem x_n {x : Nat} (hx : x < 2 ^ 31) : lrm (lN x * (16807 : Int64)) (2147483647 : Int64) = lN (xN x) ∧ xN x < 2 ^ 31 := by
  have h : xN x < 2147483647 := Nat.mod_lt _ (by decide)
  refine ⟨?_, by omega⟩
  rw [show (16807 : Int64) = lN 16807 from rfl, show (2147483647 : Int64) = lN 2147483647 from rfl, lN_mul, lrm_n (by omega) (by decide) (by decide)]
  rfl
theorem drawn_L {σm : Sto} {R T nd z : Nat} (hz : z ≤ 1) (hT : σm 4 1 = nI T) (hR : σm 4 0 = nI R) (hnd : nd ≤ 60) : ∀ (m d n n' x : Nat) (acc : Int32) (τ ρ : Sto) (u : Nat → Nat), d + m = nd → m < n → m < n' → x < 2 ^ 31 → VX τ 260 u → okV u → u 0 = R → u 1 = T → u 4 + m ≤ 2000 → eM ρ σm → ∃ τ' ρ' r, fX5_becameInYears_L34 36 n τ (nI nd) (nI z) (lN x) acc (nI d) = some (τ', r) ∧ fX10_drawn_L70 n' (SM ρ 6 u) (nI nd) (nI (2 - z)) (lN x) acc (nI d) = some (ρ', r) ∧ (∀ k, (k < 260 ∨ 268 ≤ k) → τ' k = τ k) ∧ eM ρ' σm := by
  intro m
  induction m with
  | zero =>
    intro d n n' x acc τ ρ u hd hn hn' hx hV ok e0 e1 h4 hE
    obtain ⟨n, rfl⟩ : ∃ q, n = q + 1 := ⟨n - 1, by omega⟩
    obtain ⟨n', rfl⟩ : ∃ q, n' = q + 1 := ⟨n' - 1, by omega⟩
    exact ⟨τ, SM ρ 6 u, acc, by rw [fX5_becameInYears_L34, if_pos (nI_le (by omega) (by omega))], by rw [fX10_drawn_L70, if_pos (nI_le (by omega) (by omega))], fun _ _ => rfl, eM_SM hE⟩
  | succ m ih =>
    intro d n n' x acc τ ρ u hd hn hn' hx hV ok e0 e1 h4 hE
    obtain ⟨n, rfl⟩ : ∃ q, n = q + 1 := ⟨n - 1, by omega⟩
    obtain ⟨n', rfl⟩ : ∃ q, n' = q + 1 := ⟨n' - 1, by omega⟩
    obtain ⟨x1, x2⟩ := x_n hx
    obtain ⟨w, τ1, w1, ⟨w2, w2', w2''⟩, w3, w4, w5, w6⟩ := draw_J (ρ := ρ) (x := xN x) hV ok x2 (by rw [hE 4 (by decide), hT, e1]) (by rw [hE 4 (by decide), hR, e0])
    obtain ⟨τ2, p1, p2, p3⟩ := pass_X iv_260 w4 w1 (by omega)
    have okd : okV (dayN w) := ok_day w1 (by omega)
    have ed1 : dayN w 1 = w 1 := day_lo (by decide) (by decide)
    have ed0 : dayN w 0 = w 0 := day_lo (by decide) (by decide)
    have h6 : btN (fun k => dayN w (53 + k) == (2 - z) && !(w (53 + k) == (2 - z))) (w 1) < 64 := bt_64 w1.2.2.2.1
    have hacc : ∃ τx, fX5_becameInYears_L34 36 (n + 1) τ (nI nd) (nI z) (lN x) acc (nI d) = fX5_becameInYears_L34 36 n τ2 (nI nd) (nI z) (lN (xN x)) τx (nI (d + 1)) ∧ fX10_drawn_L70 (n' + 1) (SM ρ 6 u) (nI nd) (nI (2 - z)) (lN x) acc (nI d) = fX10_drawn_L70 n' (SM ρ 6 (dayN w)) (nI nd) (nI (2 - z)) (lN (xN x)) τx (nI (d + 1)) := by
      refine ⟨acc + nI (pop6 (btN (fun k => dayN w (53 + k) == (2 - z) && !(w (53 + k) == (2 - z))) (w 1))), ?_, ?_⟩
      · rw [fX5_becameInYears_L34, if_neg (nI_ge (by omega) (by omega)), un_e, x1, w3, bd_s, standing_X w4 w1, bd_s, p1, bd_s, stones_X p2 okd, bd_s, n32_20, out_X p2 okd, bd_s, ed1, and_n, and_n, bt_and, bt_and, n32_1, nI_add]
        rcases (show z = 0 ∨ z = 1 by omega) with rfl | rfl
        · rw [if_pos (show nI 0 = (0 : Int32) by decide), un_e, un_e, new_eq w1 (Or.inr rfl), bits_X _ h6]
        · rw [if_neg (show ¬ nI 1 = (0 : Int32) by decide), un_e, un_e, new_eq w1 (Or.inl rfl), bits_X _ h6]
      · rw [fX10_drawn_L70, if_neg (nI_ge (by omega) (by omega)), un_e, x1, w6]
        unfold fX10_drawn_j179
        rw [those_M SM6 w1 (by omega), bd_s, passes_M w1, bd_s, those_M SM6 okd (by omega), bd_s, ed1, new_M, bits_M h6, bd_s, un_e, un_e, n32_1, nI_add]
    obtain ⟨y, y1, y2⟩ := hacc
    obtain ⟨τ', ρ', r, r1, r2, r3, r4⟩ := ih (d + 1) n n' (xN x) y τ2 ρ (dayN w) (by omega) (by omega) (by omega) x2 p2 okd (by rw [ed0, w2, e0]) (by rw [ed1, w2', e1]) (by rw [day_4, w2'']; omega) hE
    exact ⟨τ', ρ', r, by rw [y1]; exact r1, by rw [y2]; exact r2, fun k hk => by rw [r3 k hk, p3 k (by omega), w5 k hk], r4⟩
theorem op_drawn {σx σm : Sto} (h : Inv σx σm) (a1 : Int32) (a2 : Int32) (a3 : Int32) : ∃ qx qm, fX9_drawn σx a1 a2 a3 = some qx ∧ fX10_drawn σm a1 a2 a3 = some qm ∧ qx.2 = qm.2 ∧ Inv qx.1 qm.1 := by
  obtain ⟨u, hn⟩ := h.1
  unfold fX9_drawn fX10_drawn fX10_isTwo
  rcases g_str hn with ⟨ok, e1, e2⟩ | ⟨e1, e2⟩
  · rw [e1, e2, if_neg one_n0, if_neg one_n0]
    rcases g_in (x := a1) (a := 0) (b := 60) (ax := 0) (bx := 60) (A := 0) (B := 60) rfl rfl rfl rfl (by decide) (by decide) with ⟨i1, e1, e2⟩ | ⟨_, e1, e2⟩
    · rw [e1, e2, if_neg one_n0, if_neg one_n0]
      rcases g_in (x := a2) (a := 1) (b := 999999) (ax := 1) (bx := 999999) (A := 1) (B := 999999) rfl rfl rfl rfl (by decide) (by decide) with ⟨i2, e1, e2⟩ | ⟨_, e1, e2⟩
      · rw [e1, e2, if_neg one_n0, if_neg one_n0]
        rcases g_in (x := a3) (a := 0) (b := 1) (ax := 0) (bx := 1) (A := 0) (B := 1) rfl rfl rfl rfl (by decide) (by decide) with ⟨i3, e1, e2⟩ | ⟨_, e1, e2⟩
        · rw [e1, e2, if_neg one_n0, if_neg one_n0]
          obtain ⟨nd, _, hnd, rfl⟩ := inR_of i1
          obtain ⟨sd, hs1, hs2, rfl⟩ := inR_of i2
          obtain ⟨z, _, hz, rfl⟩ := inR_of i3
          have hT := now_T hn
          have h4 := ok.2
          have h3 := ok.1.1
          have h11 := ok.1.2.2.1
          obtain ⟨b1', b2⟩ := become_X (σ := σx) (v0 := 260) (v1 := 36) (by decide) hn.1 hT.1 hT.2
          obtain ⟨τ', ρ', r, r1, r2, r3, r4⟩ := drawn_L (σm := σm) (R := u 0) (T := u 1) (nd := nd) (z := z) (by omega) (hn.2.1 1 (by decide)) (hn.2.1 0 (by decide)) (by omega) nd 0 fu fu sd (nI 0) (fX8_become σx 260 36) σm u (by omega) (fu_gt (by omega)) (fu_gt (by omega)) (by omega) b1' ok.1 rfl rfl (by omega) (fun _ _ => rfl)
          unfold fX5_becameInYears fX10_drawn_j58
          rw [hn.1.1 1 (by decide), hn.1.1 0 (by decide), if_neg (nI_nle (by omega) (by omega)), n32_0, if_pos (nI_lt (a := 0) (by omega) (by omega)), un_e, nI_l (by omega), r1, bd_s, show fX10_laysAside σm (nI 0) = _ from aside_0 hn.2.1 ok.1, bd_s]
          refine mk2 rfl ?_ rfl (inv_e h (fun k _ hk => (r3 k hk).trans (b2 k hk)) r4)
          rcases (show z = 0 ∨ z = 1 by omega) with rfl | rfl
          · rw [if_pos (show nI 0 = nI 0 from rfl)]
            exact r2
          · rw [if_neg (show ¬ nI 1 = nI 0 by decide)]
            exact r2
        · rw [e1, e2, if_pos rfl, if_pos rfl]
          exact ⟨_, _, rfl, rfl, rfl, h⟩
      · rw [e1, e2, if_pos rfl, if_pos rfl]
        exact ⟨_, _, rfl, rfl, rfl, h⟩
    · rw [e1, e2, if_pos rfl, if_pos rfl]
      exact ⟨_, _, rfl, rfl, rfl, h⟩
  · rw [e1, e2, if_pos rfl, if_pos rfl]
    exact ⟨_, _, rfl, rfl, rfl, h⟩
