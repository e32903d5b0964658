/-! what to carry: the search as a whole -/
theorem cod (P B t r : Nat) : (P * B + t) * B ^ r = P * B ^ (r + 1) + t * B ^ r := by
  rw [Nat.add_mul, Nat.mul_assoc, Nat.pow_succ, Nat.mul_comm B (B ^ r)]
theorem try_L {σ0 : Sto} {u : Nat → Nat} {n m k P r : Nat} {A : Nat × Nat} (rc : Sto → Int32 → Option Sto) (kk : Sto → Int32 → Option Sto) (h : okV u) (hk : k < 4) (hA : A.1 ≤ 7) (hrc : ∀ (P' : Nat) (A' : Nat × Nat) (σ : Sto), A'.1 ≤ 7 → TF σ σ0 u n (n + m) (k + 1) P' A' → ∃ σ', rc σ (nI (k + 1)) = some σ' ∧ TF σ' σ0 u n (n + m) (k + 1) P' (fo (sgN u n m) (P' * (u 1 + 1) ^ r) ((u 1 + 1) ^ r) A')) : ∀ (q t f : Nat) (σ : Sto), t + q = u 1 → q < f → TF σ σ0 u n (n + m) k P (fo (sgN u n m) (P * (u 1 + 1) ^ (r + 1)) (t * (u 1 + 1) ^ r) A) → ∃ σ', fX1_tryFrom_L15 rc kk f σ (nI k) (nI t) = kk σ' (nI k) ∧ TF σ' σ0 u n (n + m) k P (fo (sgN u n m) (P * (u 1 + 1) ^ (r + 1)) (u 1 * (u 1 + 1) ^ r) A) := by
  have h1 := h.2.2.2.1
  intro q
  induction q with
  | zero =>
    intro t f σ ht hf hT
    obtain ⟨f, rfl⟩ : ∃ z, f = z + 1 := ⟨f - 1, by omega⟩
    have e : t = u 1 := by omega
    rw [e] at hT
    refine ⟨σ, ?_, hT⟩
    rw [fX1_tryFrom_L15, hT.2.1.1, if_pos (nI_le (by omega) (by omega))]
  | succ q ih =>
    intro t f σ ht hf hT
    obtain ⟨f, rfl⟩ : ∃ z, f = z + 1 := ⟨f - 1, by omega⟩
    have hA' := (fo_b (sgN u n m) (P * (u 1 + 1) ^ (r + 1)) A (sg_le u n m) (t * (u 1 + 1) ^ r)).1
    obtain ⟨σ1, s1, s2⟩ := hrc (P * (u 1 + 1) + t) _ _ (Nat.le_trans hA' hA) (TF_in h1 hk (show t < u 1 by omega) hT)
    rw [cod, ← fo_add, show t * (u 1 + 1) ^ r + (u 1 + 1) ^ r = (t + 1) * (u 1 + 1) ^ r by rw [Nat.add_mul, Nat.one_mul]] at s2
    obtain ⟨σ', r1, r2⟩ := ih (t + 1) f _ (by omega) (by omega) (TF_out h1 hk (show t < u 1 by omega) s2)
    refine ⟨σ', ?_, r2⟩
    have h20 : up σ 18 k (nI t) 20 t = nI (btN (fun i => dg (u 1 + 1) k P i == t) k) := by
      rw [up_k (by decide)]
      exact hT.2.2.2.2.1 t (by omega)
    rw [fX1_tryFrom_L15, hT.2.1.1, if_neg (nI_ge (by omega) (by omega)), vin_t hk (by decide), gd_t, nI_clamp (by omega), un_e, vin_t (by omega) (by decide), gd_t, nI_clamp (by omega), un_e, h20, show (1 : Int32) <<< (nI k &&& (31 : Int32)) = nI (2 ^ k) from shl1_n (by omega), or_n, n32_1, nI_add, s1, bd_s, un_e, un_e, nI_add]
    exact r1
theorem try_X {σ0 : Sto} {u : Nat → Nat} {n m : Nat} (h : okV u) (hn : n ≤ 4) (hd : u 4 + (n + m) ≤ 2000) (h17 : ∀ t s, t < u 1 → s < 2 ^ n → σ0 17 (t * 16 + s) = nI (b1 (stC u n (n + m) t s))) : ∀ (r k d P : Nat) (A : Nat × Nat) (σ : Sto), k + r = n → r < d → A.1 ≤ 7 → TF σ σ0 u n (n + m) k P A → ∃ σ', fX1_tryFromD d σ (nI k) = some σ' ∧ TF σ' σ0 u n (n + m) k P (fo (sgN u n m) (P * (u 1 + 1) ^ r) ((u 1 + 1) ^ r) A) := by
  have h1 := h.2.2.2.1
  intro r
  induction r with
  | zero =>
    intro k d P A σ hk hd2 hA hT
    obtain ⟨d, rfl⟩ : ∃ z, d = z + 1 := ⟨d - 1, by omega⟩
    have e : k = n := by omega
    subst e
    obtain ⟨σ', s1, s2⟩ := weigh_X h hn hd hA h17 hT
    refine ⟨σ', ?_, ?_⟩
    · show fX1_tryFrom (fX1_tryFromD d) σ (nI k) = some σ'
      unfold fX1_tryFrom
      rw [hT.2.1.2.1, if_neg (nI_nlt (Nat.le_refl _) (by omega)), s1, bd_s]
    · rw [Nat.pow_zero, Nat.mul_one]
      exact s2
  | succ r ih =>
    intro k d P A σ hk hd2 hA hT
    obtain ⟨d, rfl⟩ : ∃ z, d = z + 1 := ⟨d - 1, by omega⟩
    have hrc : ∀ (P' : Nat) (A' : Nat × Nat) (σ : Sto), A'.1 ≤ 7 → TF σ σ0 u n (n + m) (k + 1) P' A' → ∃ σ', fX1_tryFromD d σ (nI (k + 1)) = some σ' ∧ TF σ' σ0 u n (n + m) (k + 1) P' (fo (sgN u n m) (P' * (u 1 + 1) ^ r) ((u 1 + 1) ^ r) A') := fun P' A' σ hA' hT' => ih (k + 1) d P' A' σ (by omega) (by omega) hA' hT'
    obtain ⟨σ1, s1, s2⟩ := try_L (P := P) (r := r) (A := A) (fX1_tryFromD d) (fun σ_1 z_2 => gd (vin z_2 4) (un (up σ_1 18 (z_2.toNatClampNeg) (σ_1 14 6)) fun σ_4 => bd (fX1_tryFromD d σ_4 (z_2 + (1 : Int32))) fun q_5 => some q_5)) h (show k < 4 by omega) hA hrc (u 1) 0 fu σ (by omega) (fu_gt (by omega)) (by rw [Nat.zero_mul]; exact hT)
    have hA' := (fo_b (sgN u n m) (P * (u 1 + 1) ^ (r + 1)) A (sg_le u n m) (u 1 * (u 1 + 1) ^ r)).1
    obtain ⟨σ2, p1, p2⟩ := hrc (P * (u 1 + 1) + u 1) _ _ (Nat.le_trans hA' hA) (TF_none h1 (show k < 4 by omega) s2)
    rw [cod, ← fo_add, show u 1 * (u 1 + 1) ^ r + (u 1 + 1) ^ r = (u 1 + 1) ^ (r + 1) by rw [Nat.pow_succ, Nat.mul_comm ((u 1 + 1) ^ r) (u 1 + 1), Nat.add_mul, Nat.one_mul]] at p2
    have hlo : ∀ i, i < k → dg (u 1 + 1) (k + 1) (P * (u 1 + 1) + u 1) i = dg (u 1 + 1) k P i := fun i hi => dg_lo (by omega) (by omega) hi
    have hhi : dg (u 1 + 1) (k + 1) (P * (u 1 + 1) + u 1) k = u 1 := dg_hi (by omega)
    refine ⟨σ2, ?_, p2.1, p2.2.1, p2.2.2.1, fun i hi => ?_, fun t ht => ?_, p2.2.2.2.2.2⟩
    · show fX1_tryFrom (fX1_tryFromD d) σ (nI k) = some σ2
      unfold fX1_tryFrom
      rw [hT.2.1.2.1, if_pos (nI_lt (by omega) (by omega))]
      refine Eq.trans s1 ?_
      rw [vin_t (by omega) (by decide), gd_t, nI_clamp (by omega), un_e, s2.2.1.1, n32_1, nI_add, p1, bd_s]
    · rw [← hlo i hi]
      exact p2.2.2.2.1 i (by omega)
    · rw [p2.2.2.2.2.1 t ht, ← bt_no _ k (by rw [hhi]; exact beq_eq_false_iff_ne.mpr (by omega))]
      exact congrArg nI (bt_congr (fun i hi => by rw [hlo i hi]))
theorem search_X {σx σm : Sto} {u : Nat → Nat} {n m : Nat} (hi : Inv σx σm) (hx : VX σx 36 u) (h : okV u) (hn1 : 1 ≤ n) (hn : n ≤ 4) (hm : m ≤ 20) (hd : u 4 + (n + m) ≤ 2000) : ∃ σ', fX1_search σx 36 (nI n) (nI m) = some σ' ∧ (∀ q, q ≠ 14 → q ≠ 16 → q ≠ 17 → q ≠ 18 → q ≠ 19 → σ' q = σx q) ∧ σ' 14 6 = nI (u 1) ∧ σ' 14 7 = nI n ∧ σ' 14 0 = nI (fo (sgN u n m) 0 ((u 1 + 1) ^ n) (7, 0)).1 ∧ ((fo (sgN u n m) 0 ((u 1 + 1) ^ n) (7, 0)).1 < 7 → ∀ i, i < n → σ' 19 i = nI (dg (u 1 + 1) n (fo (sgN u n m) 0 ((u 1 + 1) ^ n) (7, 0)).2 i)) := by
  have h1 := h.2.2.2.1
  have hsc : iScr σx := hi.2.2.2.2.2.2.2
  unfold fX1_search
  rw [hx.1 1 (by decide), n32_4, if_neg (nI_nlt (by omega) (by omega)), un_e, un_e]
  have a7 : up (up σx 14 6 (nI (u 1))) 14 7 (nI n) 14 7 = nI n := up_i
  have a6 : up (up σx 14 6 (nI (u 1))) 14 7 (nI n) 14 6 = nI (u 1) := by rw [up_j (by decide), up_i]
  have ao : ∀ q, q ≠ 14 → up (up σx 14 6 (nI (u 1))) 14 7 (nI n) q = σx q := fun q hq => by rw [up_k hq, up_k hq]
  generalize up (up σx 14 6 (nI (u 1))) 14 7 (nI n) = σ2 at a7 a6 ao ⊢
  rw [a7, nI_add]
  obtain ⟨σ3, b1', b2, b3⟩ := tell_X (σ := σ2) (f := 15) (v := 36) (d := n + m) (most := 24) (by decide) (by decide) (VX_fr hx (fun q _ _ => ao q (by omega))) h hd (by rw [ao 15 (by decide)]; exact hsc.2.1) (by omega) (by decide) (by decide)
  have c7 : σ3 14 7 = nI n := by rw [b3 14 (by decide)]; exact a7
  have c6 : σ3 14 6 = nI (u 1) := by rw [b3 14 (by decide)]; exact a6
  have hx3 : VX σ3 36 u := VX_fr hx (fun q _ _ => by rw [b3 q (by omega), ao q (by omega)])
  obtain ⟨σ4, d1, d2, d3⟩ := faL2 (e := n + m) hx3 h b2 hd (by omega) c6 c7 hn (u 1) 0 fu σ3 (by omega) (fu_gt (by omega)) ⟨fun _ _ => rfl, fun t' s ht hs hc => by omega⟩
  rw [b1', bd_s, c7, nI_add]
  have d1 : fX1_followAll σ3 36 (nI (n + m)) = some σ4 := d1
  rw [d1, bd_s, un_e]
  have hT : TF (up σ4 14 0 (7 : Int32)) (up σ4 14 0 (7 : Int32)) u n (n + m) 0 0 (7, 0) := ⟨fun _ _ _ _ _ => rfl, ⟨by rw [up_j (by decide), d2 14 (by decide)]; exact c6, by rw [up_j (by decide), d2 14 (by decide)]; exact c7, up_i⟩, fun z => absurd z (by decide), fun i hi => by omega, fun t ht => by
    rw [up_k (by decide), d2 20 (by decide), b3 20 (by decide), ao 20 (by decide), hsc.2.2.2.1 t (by omega)]
    rfl, fun _ _ => rfl⟩
  obtain ⟨σ5, e1, e2⟩ := try_X (σ0 := up σ4 14 0 (7 : Int32)) h hn hd (fun t s ht hs => by rw [up_k (by decide)]; exact d3 t s ht hs (by omega)) n 0 6 0 (7, 0) _ (by omega) (by omega) (by decide) hT
  rw [Nat.zero_mul] at e2
  have e1 : fX1_tryFromR (up σ4 14 0 (7 : Int32)) (0 : Int32) = some σ5 := e1
  rw [e1, bd_s]
  obtain ⟨f1, ⟨f6, f7, f0⟩, f2, f3, f4, f5⟩ := e2
  refine ⟨σ5, rfl, fun q q14 q16 q17 q18 q19 => ?_, f6, f7, f0, f2⟩
  by_cases c : q = 20
  · subst c
    funext j
    have g : up σ4 14 0 (7 : Int32) 20 j = σx 20 j := by rw [up_k (by decide), d2 20 (by decide), b3 20 (by decide), ao 20 (by decide)]
    by_cases hj : j < u 1
    · rw [f4 j hj, hsc.2.2.2.1 j (by omega)]
      rfl
    · rw [f5 j (by omega), g]
  · rw [f1 q q14 q18 q19 c, up_k q14, d2 q q17, b3 q q16, ao q q14]
theorem inv_ca {σx σm τx τm : Sto} (h : Inv σx σm) (ex : ∀ q, q ≠ 14 → q ≠ 16 → q ≠ 17 → q ≠ 18 → q ≠ 19 → τx q = σx q) (hm : eM τm σm) : Inv τx τm :=
  inv_fr h (fun k h1 h2 => by unfold scX at h2; exact ex k (by omega) (by omega) (by omega) (by omega) (by omega)) (by rw [ex 21 (by decide) (by decide) (by decide) (by decide) (by decide)]) (fun k _ _ h6 _ => hm k h6) (fun j _ => by rw [hm 0 (by decide)])
theorem op_carries {σx σm : Sto} (h : Inv σx σm) (a1 : Int32) (a2 : Int32) (a3 : Int32) : ∃ qx qm, fX9_carries σx a1 a2 a3 = some qx ∧ fX10_carries σm a1 a2 a3 = some qm ∧ qx.2 = qm.2 ∧ Inv qx.1 qm.1 := by
  obtain ⟨u, hn⟩ := h.1
  unfold fX9_carries fX10_carries
  rcases g_str hn with ⟨ok, e1, e2⟩ | ⟨e1, e2⟩
  · rw [e1, e2, if_neg one_n0, if_neg one_n0]
    rcases g_in (x := a1) (a := 1) (b := 4) (ax := 1) (bx := 4) (A := 1) (B := 4) rfl rfl rfl rfl (by decide) (by decide) with ⟨i1, e1, e2⟩ | ⟨_, e1, e2⟩
    · rw [e1, e2, if_neg one_n0, if_neg one_n0]
      rcases g_in (x := a2) (a := 0) (b := 20) (ax := 0) (bx := 20) (A := 0) (B := 20) rfl rfl rfl rfl (by decide) (by decide) with ⟨i2, e1, e2⟩ | ⟨_, e1, e2⟩
      · rw [e1, e2, if_neg one_n0, if_neg one_n0]
        by_cases c3 : (-1 : Int32) ≤ a3
        · rw [if_pos c3, if_pos c3]
          obtain ⟨n, hn1, hn4, rfl⟩ := inR_of i1
          obtain ⟨m, _, hm, rfl⟩ := inR_of i2
          have hT := now_T hn
          have h4 := ok.2
          have h11 := ok.1.2.2.1
          have hbn := b7 (B := u 1 + 1) (e := n) (by omega) (by omega)
          have hb0 : 0 < (u 1 + 1) ^ n := Nat.pow_pos (by omega)
          obtain ⟨τ, t1, t2, t6, t7, t0, t19⟩ := search_X (n := n) (m := m) h hn.1 ok.1 hn1 (by omega) (by omega) (by omega)
          obtain ⟨ρ', m1, m2⟩ := carries_LM (n := n) (m := m) (x3 := a3) (fun σ_5 z_6 z_7 z_8 z_9 z_10 => if (0 : Int32) ≤ z_7 then (if z_6 ≤ z_7 then fX10_carries_j149 σ_5 z_8 (z_8 - (1 : Int32)) else (bd (fX10_power z_8 ((z_6 - (1 : Int32)) - z_7)) fun q_11 => gd (nz q_11) (gd (nz z_8) (fX10_carries_j149 σ_5 z_8 (irm (z_10 / q_11) z_8))))) else some (σ_5, z_9)) hn.2.1 ok.1 hn1 (by omega) (show u 4 + (n + m) ≤ 2000 by omega) (99, 0) ⟨by decide, by decide⟩ ((u 1 + 1) ^ n) 0 fu σm (by omega) (fu_gt (by omega)) (fun _ _ => rfl)
          obtain ⟨b, hbb⟩ : ∃ b, (u 1 + 1) ^ n = b + 1 := ⟨(u 1 + 1) ^ n - 1, by omega⟩
          obtain ⟨f1, f2⟩ := fo_start (sgN u n m) (sg_le u n m) b
          rw [← hbb] at f1 f2
          rw [← f1] at m1
          have f3 := (fo_b (sgN u n m) 0 (7, 0) (sg_le u n m) ((u 1 + 1) ^ n)).2
          have t19 := t19 f2
          have hb2 : (fo (sgN u n m) 0 ((u 1 + 1) ^ n) (7, 0)).2 < 2 ^ 20 := by
            rcases f3 with q | q
            · omega
            · rw [q]
              decide
          generalize fo (sgN u n m) 0 ((u 1 + 1) ^ n) (7, 0) = A at t0 t19 m1 f2 hb2
          rw [t1, bd_s, hn.2.1 1 (by decide), show nI (u 1) + (1 : Int32) = nI (u 1 + 1) from nI_add (u 1) 1, un_e]
          have hinv : Inv τ ρ' := inv_ca h t2 m2
          have m1 : fX10_carries_L62 _ fu σm (nI n) (nI m) a3 (nI (u 1 + 1)) (99 : Int32) (0 : Int32) (0 : Int32) = _ := m1
          rw [m1]
          unfold fX10_carries_j149
          by_cases c : a3 = (-1 : Int32)
          · subst c
            rw [if_pos rfl, if_neg (show ¬ (0 : Int32) ≤ (-1 : Int32) by decide), t0]
            exact mk2 rfl rfl rfl hinv
          · have c0 : (0 : Int32) ≤ a3 := by
              rw [Int32.le_iff_toInt_le] at c3 ⊢
              have e : a3.toInt ≠ -1 := fun q => c (Int32.toInt_inj.mp (by rw [q]; decide))
              have e1 : (-1 : Int32).toInt = -1 := by decide
              have e0 : (0 : Int32).toInt = 0 := by decide
              omega
            have c0' : ¬ a3 < 0 := by
              rw [Int32.lt_iff_toInt_lt]
              rw [Int32.le_iff_toInt_le] at c0
              omega
            obtain ⟨k, hk, rfl⟩ := nI_of c0'
            rw [if_neg c, if_pos c0]
            unfold fX1_choiceAt
            rw [if_neg c0', t7, t6]
            by_cases ck : n ≤ k
            · rw [if_pos (nI_le ck hk), bd_s, if_pos (nI_le ck hk), if_pos (by rw [n32_1, pk_sub (by omega)]; exact nI_le (Nat.le_refl _) (by omega))]
              exact mk2 rfl rfl rfl hinv
            · have hp0 : 0 < (u 1 + 1) ^ (n - 1 - k) := Nat.pow_pos (by omega)
              have hp1 := b7 (B := u 1 + 1) (e := n - 1 - k) (by omega) (by omega)
              have hdg : dg (u 1 + 1) n A.2 k < u 1 + 1 := Nat.mod_lt _ (by omega)
              have ed : A.2 / (u 1 + 1) ^ (n - 1 - k) % (u 1 + 1) = dg (u 1 + 1) n A.2 k := rfl
              have hcd : A.2 / (u 1 + 1) ^ (n - 1 - k) ≤ A.2 := Nat.div_le_self _ _
              rw [if_neg (nI_ge (by omega) (by omega)), if_neg (nI_ge (by omega) (by omega)), vin_t (by omega) (by decide), gd_t, nI_clamp (by omega), t19 k (by omega), n32_1, pk_sub (by omega), pk_sub (by omega), power_M (by omega) (by omega), bd_s, nz_n (by omega) hp0, gd_t, nz_n (by omega) (by omega), gd_t, pk_div (by omega) hp0 (by omega), irm_n (by omega) (by omega) (by omega), ed, pk_sub (by omega), Nat.add_sub_cancel]
              by_cases cd : u 1 ≤ dg (u 1 + 1) n A.2 k
              · rw [if_pos (nI_le cd (by omega)), bd_s, if_pos (nI_le cd (by omega))]
                exact mk2 rfl rfl rfl hinv
              · rw [if_neg (nI_ge (by omega) (by omega)), bd_s, if_neg (nI_ge (by omega) (by omega))]
                exact mk2 rfl rfl rfl hinv
        · rw [if_neg c3, if_neg c3]
          exact ⟨_, _, rfl, rfl, rfl, h⟩
      · rw [e1, e2, if_pos rfl, if_pos rfl]
        exact ⟨_, _, rfl, rfl, rfl, h⟩
    · rw [e1, e2, if_pos rfl, if_pos rfl]
      exact ⟨_, _, rfl, rfl, rfl, h⟩
  · rw [e1, e2, if_pos rfl, if_pos rfl]
    exact ⟨_, _, rfl, rfl, rfl, h⟩
