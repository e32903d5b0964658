/-! as, ask -/
theorem as_dec (σ : Sto) (n : Nat) : ∀ s, 1 ≤ s → s < 6 → ∀ k, k < 6 → fX9_isOfKind_L4 σ (n + 7) (nI k) (nI s) 0 = some (fX10_isOf (nI s) (nI k)) := by
  intro s h1 hs k hk
  rcases (show s = 1 ∨ s = 2 ∨ s = 3 ∨ s = 4 ∨ s = 5 by omega) with rfl | rfl | rfl | rfl | rfl
  all_goals rcases (show k = 0 ∨ k = 1 ∨ k = 2 ∨ k = 3 ∨ k = 4 ∨ k = 5 by omega) with rfl | rfl | rfl | rfl | rfl | rfl
  all_goals rfl
theorem isOf_X {σ : Sto} {s k : Nat} (h1 : 1 ≤ s) (hs : s < 6) (hk : k < 6) : fX9_isOfKind σ (nI s) (nI k) = some (fX10_isOf (nI s) (nI k)) := as_dec σ 99993 s h1 hs k hk
theorem op_as {σx σm : Sto} (h : Inv σx σm) (a1 : Int32) (a2 : Int32) : ∃ qx qm, fX9_as σx a1 a2 = some qx ∧ fX10_as σm a1 a2 = some qm ∧ qx.2 = qm.2 ∧ Inv qx.1 qm.1 := by
  obtain ⟨u, hn⟩ := h.1
  unfold fX9_as fX10_as
  rcases g_thing hn a1 with ⟨i1, ok, e1, e2⟩ | ⟨_, e1, e2⟩
  · rw [e1, e2, if_neg one_n0, if_neg one_n0]
    rcases g_in (x := a2) (a := 0) (b := 5) (ax := 0) (bx := 5) (A := 0) (B := 5) rfl rfl rfl rfl (by decide) (by decide) with ⟨i2, e1, e2⟩ | ⟨_, e1, e2⟩
    · rw [e1, e2, if_neg one_n0, if_neg one_n0]
      obtain ⟨k, _, hk, rfl⟩ := inR_of i1
      obtain ⟨z, _, hz, rfl⟩ := inR_of i2
      have hT := now_T hn
      obtain ⟨b1, b2, b3, b4, b5, b6⟩ := ok.1.2.2.2.2.2.2.2.2.2.2.2 k hk
      have h40 : σx 40 k = nI (u (35 + k)) := (hn.1.2.2 k hk).1
      rw [vin_t (by omega) (by decide), gd_t, nI_clamp (by omega), h40, isOf_X b1 (by omega) (by omega), bd_s, n32_35, nI_add, vin_t (by omega) (by decide), gd_t, nI_clamp (by omega), hn.2.1 _ (by omega)]
      by_cases c : fX10_isOf (nI (u (35 + k))) (nI z) = (0 : Int32)
      · rw [if_pos c, if_pos c]
        exact op_found h 3
      · rw [if_neg c, if_neg c]
        exact mk2 rfl rfl rfl (inv_fo h)
    · rw [e1, e2, if_pos rfl, if_pos rfl]
      exact ⟨_, _, rfl, rfl, rfl, h⟩
  · rw [e1, e2, if_pos rfl, if_pos rfl]
    exact ⟨_, _, rfl, rfl, rfl, h⟩
/-- the trace, on both sides: n numbers of f -/
def TX (σ : Sto) (f : Nat → Nat) (n : Nat) : Sto := up (SO σ 27 0 f n) 26 0 (nI n)
def TM (σ : Sto) (f : Nat → Nat) (n : Nat) : Sto := up (SO σ 11 0 f n) 0 15 (nI n)
theorem up_swap {σ : Sto} {a b i j : Nat} {x y z : Int32} (h : a ≠ b) : up (up (up σ a i x) b j y) a i z = up (up σ b j y) a i z := by
  funext k q
  by_cases h1 : k = a
  · subst h1
    by_cases h2 : q = i
    · subst h2
      rw [up_i, up_i]
    · rw [up_j h2, up_j h2, up_k h, up_k h, up_j h2]
  · rw [up_k h1, up_k h1]
    by_cases h2 : k = b
    · subst h2
      by_cases h3 : q = j
      · subst h3
        rw [up_i, up_i]
      · rw [up_j h3, up_j h3, up_k h1]
    · rw [up_k h2, up_k h2, up_k h1]
theorem TX_o {σ : Sto} {f : Nat → Nat} {n k : Nat} (h : k ≠ 26) (h2 : k ≠ 27) : TX σ f n k = σ k := by
  unfold TX
  rw [up_k h, SO_ne h2]
theorem TM_o {σ : Sto} {f : Nat → Nat} {n k : Nat} (h : k ≠ 0) (h2 : k ≠ 11) : TM σ f n k = σ k := by
  unfold TM
  rw [up_k h, SO_ne h2]
theorem begin_X {σ : Sto} {f : Nat → Nat} {n : Nat} (hn : n < 16) {x : Int32} (hx : x = nI (f n)) : fX0_begin (TX σ f n) x = some (TX σ f (n + 1)) := by
  subst hx
  have e : TX σ f n 26 0 = nI n := up_i
  unfold fX0_begin
  rw [e, n32_16, if_neg (nI_ge hn (by decide)), vin_t hn (by decide), gd_t, nI_clamp (by omega)]
  simp only [un]
  rw [up_k (show (26 : Nat) ≠ 27 by decide), e, n32_1, nI_add]
  unfold TX
  rw [up_swap (by decide)]
  have := SO_succ (σ := σ) (a := 27) (o := 0) (n := n) (u := f)
  rw [Nat.zero_add] at this
  rw [this]
theorem leave_S {σ : Sto} {f : Nat → Nat} {n m : Nat} {x3 x5 : Int64} (hn : n < 16) (h1 : ¬ lg_cmp x3 (0 : Int64) ≤ 0) (h2 : nzL x3 = true) (hx : (x5 / x3).toInt32 = nI (f n)) : fX10_leave_L24 (m + 1) (TM σ f n) x3 x5 = fX10_leave_L24 m (TM σ f (n + 1)) (x3 / (100 : Int64)) (lrm x5 x3) := by
  have e : TM σ f n 0 15 = nI n := up_i
  rw [fX10_leave_L24, if_neg h1, h2, gd_t, e, vin_t hn (by decide), gd_t, nI_clamp (by omega), hx]
  simp only [un]
  rw [up_k (show (0 : Nat) ≠ 11 by decide), e, n32_1, nI_add]
  congr 1
  unfold TM
  rw [up_swap (by decide)]
  have := SO_succ (σ := σ) (a := 11) (o := 0) (n := n) (u := f)
  rw [Nat.zero_add] at this
  rw [this]

theorem leave_242120 {σ : Sto} {f : Nat → Nat} {n : Nat} (hn : n + 3 ≤ 16) (h0 : f n = 24) (h1 : f (n + 1) = 21) (h2 : f (n + 2) = 20) : fX10_leave (TM σ f n) (242120 : Int64) = some (TM σ f (n + 3)) := by
  have e : ∀ (kk : Sto → Int64 → Int64 → Option Sto) (τ : Sto) (m : Nat), fX10_leave_L2 kk (m + 9) τ (242120 : Int64) 1 = kk τ (242120 : Int64) (10000 : Int64) := fun kk τ m => rfl
  have e1 := e (fun σ_1 z_2 z_3 => fX10_leave_L24 fu σ_1 z_3 z_2) (TM σ f n) 99991
  refine Eq.trans e1 ?_
  show fX10_leave_L24 (99999 + 1) (TM σ f n) (10000 : Int64) (242120 : Int64) = _
  rw [leave_S (by omega) (by decide) (by decide) (by rw [h0]; decide)]
  show fX10_leave_L24 (99998 + 1) (TM σ f (n + 1)) (100 : Int64) (2120 : Int64) = _
  rw [leave_S (by omega) (by decide) (by decide) (by rw [h1]; decide)]
  show fX10_leave_L24 (99997 + 1) (TM σ f (n + 2)) (1 : Int64) (20 : Int64) = _
  rw [leave_S (by omega) (by decide) (by decide) (by rw [h2]; decide)]
  show fX10_leave_L24 (99996 + 1) (TM σ f (n + 3)) (0 : Int64) (0 : Int64) = _
  rw [fX10_leave_L24, if_pos (by decide)]
theorem leave_222120 {σ : Sto} {f : Nat → Nat} {n : Nat} (hn : n + 3 ≤ 16) (h0 : f n = 22) (h1 : f (n + 1) = 21) (h2 : f (n + 2) = 20) : fX10_leave (TM σ f n) (222120 : Int64) = some (TM σ f (n + 3)) := by
  have e : ∀ (kk : Sto → Int64 → Int64 → Option Sto) (τ : Sto) (m : Nat), fX10_leave_L2 kk (m + 9) τ (222120 : Int64) 1 = kk τ (222120 : Int64) (10000 : Int64) := fun kk τ m => rfl
  have e1 := e (fun σ_1 z_2 z_3 => fX10_leave_L24 fu σ_1 z_3 z_2) (TM σ f n) 99991
  refine Eq.trans e1 ?_
  show fX10_leave_L24 (99999 + 1) (TM σ f n) (10000 : Int64) (222120 : Int64) = _
  rw [leave_S (by omega) (by decide) (by decide) (by rw [h0]; decide)]
  show fX10_leave_L24 (99998 + 1) (TM σ f (n + 1)) (100 : Int64) (2120 : Int64) = _
  rw [leave_S (by omega) (by decide) (by decide) (by rw [h1]; decide)]
  show fX10_leave_L24 (99997 + 1) (TM σ f (n + 2)) (1 : Int64) (20 : Int64) = _
  rw [leave_S (by omega) (by decide) (by decide) (by rw [h2]; decide)]
  show fX10_leave_L24 (99996 + 1) (TM σ f (n + 3)) (0 : Int64) (0 : Int64) = _
  rw [fX10_leave_L24, if_pos (by decide)]
theorem leave_2120 {σ : Sto} {f : Nat → Nat} {n : Nat} (hn : n + 2 ≤ 16) (h0 : f n = 21) (h1 : f (n + 1) = 20) : fX10_leave (TM σ f n) (2120 : Int64) = some (TM σ f (n + 2)) := by
  have e : ∀ (kk : Sto → Int64 → Int64 → Option Sto) (τ : Sto) (m : Nat), fX10_leave_L2 kk (m + 9) τ (2120 : Int64) 1 = kk τ (2120 : Int64) (100 : Int64) := fun kk τ m => rfl
  have e1 := e (fun σ_1 z_2 z_3 => fX10_leave_L24 fu σ_1 z_3 z_2) (TM σ f n) 99991
  refine Eq.trans e1 ?_
  show fX10_leave_L24 (99999 + 1) (TM σ f n) (100 : Int64) (2120 : Int64) = _
  rw [leave_S (by omega) (by decide) (by decide) (by rw [h0]; decide)]
  show fX10_leave_L24 (99998 + 1) (TM σ f (n + 1)) (1 : Int64) (20 : Int64) = _
  rw [leave_S (by omega) (by decide) (by decide) (by rw [h1]; decide)]
  show fX10_leave_L24 (99997 + 1) (TM σ f (n + 2)) (0 : Int64) (0 : Int64) = _
  rw [fX10_leave_L24, if_pos (by decide)]
theorem leave_1310 {σ : Sto} {f : Nat → Nat} {n : Nat} (hn : n + 2 ≤ 16) (h0 : f n = 13) (h1 : f (n + 1) = 10) : fX10_leave (TM σ f n) (1310 : Int64) = some (TM σ f (n + 2)) := by
  have e : ∀ (kk : Sto → Int64 → Int64 → Option Sto) (τ : Sto) (m : Nat), fX10_leave_L2 kk (m + 9) τ (1310 : Int64) 1 = kk τ (1310 : Int64) (100 : Int64) := fun kk τ m => rfl
  have e1 := e (fun σ_1 z_2 z_3 => fX10_leave_L24 fu σ_1 z_3 z_2) (TM σ f n) 99991
  refine Eq.trans e1 ?_
  show fX10_leave_L24 (99999 + 1) (TM σ f n) (100 : Int64) (1310 : Int64) = _
  rw [leave_S (by omega) (by decide) (by decide) (by rw [h0]; decide)]
  show fX10_leave_L24 (99998 + 1) (TM σ f (n + 1)) (1 : Int64) (10 : Int64) = _
  rw [leave_S (by omega) (by decide) (by decide) (by rw [h1]; decide)]
  show fX10_leave_L24 (99997 + 1) (TM σ f (n + 2)) (0 : Int64) (0 : Int64) = _
  rw [fX10_leave_L24, if_pos (by decide)]
theorem leave_141310 {σ : Sto} {f : Nat → Nat} {n : Nat} (hn : n + 3 ≤ 16) (h0 : f n = 14) (h1 : f (n + 1) = 13) (h2 : f (n + 2) = 10) : fX10_leave (TM σ f n) (141310 : Int64) = some (TM σ f (n + 3)) := by
  have e : ∀ (kk : Sto → Int64 → Int64 → Option Sto) (τ : Sto) (m : Nat), fX10_leave_L2 kk (m + 9) τ (141310 : Int64) 1 = kk τ (141310 : Int64) (10000 : Int64) := fun kk τ m => rfl
  have e1 := e (fun σ_1 z_2 z_3 => fX10_leave_L24 fu σ_1 z_3 z_2) (TM σ f n) 99991
  refine Eq.trans e1 ?_
  show fX10_leave_L24 (99999 + 1) (TM σ f n) (10000 : Int64) (141310 : Int64) = _
  rw [leave_S (by omega) (by decide) (by decide) (by rw [h0]; decide)]
  show fX10_leave_L24 (99998 + 1) (TM σ f (n + 1)) (100 : Int64) (1310 : Int64) = _
  rw [leave_S (by omega) (by decide) (by decide) (by rw [h1]; decide)]
  show fX10_leave_L24 (99997 + 1) (TM σ f (n + 2)) (1 : Int64) (10 : Int64) = _
  rw [leave_S (by omega) (by decide) (by decide) (by rw [h2]; decide)]
  show fX10_leave_L24 (99996 + 1) (TM σ f (n + 3)) (0 : Int64) (0 : Int64) = _
  rw [fX10_leave_L24, if_pos (by decide)]
theorem leave_2320 {σ : Sto} {f : Nat → Nat} {n : Nat} (hn : n + 2 ≤ 16) (h0 : f n = 23) (h1 : f (n + 1) = 20) : fX10_leave (TM σ f n) (2320 : Int64) = some (TM σ f (n + 2)) := by
  have e : ∀ (kk : Sto → Int64 → Int64 → Option Sto) (τ : Sto) (m : Nat), fX10_leave_L2 kk (m + 9) τ (2320 : Int64) 1 = kk τ (2320 : Int64) (100 : Int64) := fun kk τ m => rfl
  have e1 := e (fun σ_1 z_2 z_3 => fX10_leave_L24 fu σ_1 z_3 z_2) (TM σ f n) 99991
  refine Eq.trans e1 ?_
  show fX10_leave_L24 (99999 + 1) (TM σ f n) (100 : Int64) (2320 : Int64) = _
  rw [leave_S (by omega) (by decide) (by decide) (by rw [h0]; decide)]
  show fX10_leave_L24 (99998 + 1) (TM σ f (n + 1)) (1 : Int64) (20 : Int64) = _
  rw [leave_S (by omega) (by decide) (by decide) (by rw [h1]; decide)]
  show fX10_leave_L24 (99997 + 1) (TM σ f (n + 2)) (0 : Int64) (0 : Int64) = _
  rw [fX10_leave_L24, if_pos (by decide)]
theorem leave_121110 {σ : Sto} {f : Nat → Nat} {n : Nat} (hn : n + 3 ≤ 16) (h0 : f n = 12) (h1 : f (n + 1) = 11) (h2 : f (n + 2) = 10) : fX10_leave (TM σ f n) (121110 : Int64) = some (TM σ f (n + 3)) := by
  have e : ∀ (kk : Sto → Int64 → Int64 → Option Sto) (τ : Sto) (m : Nat), fX10_leave_L2 kk (m + 9) τ (121110 : Int64) 1 = kk τ (121110 : Int64) (10000 : Int64) := fun kk τ m => rfl
  have e1 := e (fun σ_1 z_2 z_3 => fX10_leave_L24 fu σ_1 z_3 z_2) (TM σ f n) 99991
  refine Eq.trans e1 ?_
  show fX10_leave_L24 (99999 + 1) (TM σ f n) (10000 : Int64) (121110 : Int64) = _
  rw [leave_S (by omega) (by decide) (by decide) (by rw [h0]; decide)]
  show fX10_leave_L24 (99998 + 1) (TM σ f (n + 1)) (100 : Int64) (1110 : Int64) = _
  rw [leave_S (by omega) (by decide) (by decide) (by rw [h1]; decide)]
  show fX10_leave_L24 (99997 + 1) (TM σ f (n + 2)) (1 : Int64) (10 : Int64) = _
  rw [leave_S (by omega) (by decide) (by decide) (by rw [h2]; decide)]
  show fX10_leave_L24 (99996 + 1) (TM σ f (n + 3)) (0 : Int64) (0 : Int64) = _
  rw [fX10_leave_L24, if_pos (by decide)]
theorem leave_1110 {σ : Sto} {f : Nat → Nat} {n : Nat} (hn : n + 2 ≤ 16) (h0 : f n = 11) (h1 : f (n + 1) = 10) : fX10_leave (TM σ f n) (1110 : Int64) = some (TM σ f (n + 2)) := by
  have e : ∀ (kk : Sto → Int64 → Int64 → Option Sto) (τ : Sto) (m : Nat), fX10_leave_L2 kk (m + 9) τ (1110 : Int64) 1 = kk τ (1110 : Int64) (100 : Int64) := fun kk τ m => rfl
  have e1 := e (fun σ_1 z_2 z_3 => fX10_leave_L24 fu σ_1 z_3 z_2) (TM σ f n) 99991
  refine Eq.trans e1 ?_
  show fX10_leave_L24 (99999 + 1) (TM σ f n) (100 : Int64) (1110 : Int64) = _
  rw [leave_S (by omega) (by decide) (by decide) (by rw [h0]; decide)]
  show fX10_leave_L24 (99998 + 1) (TM σ f (n + 1)) (1 : Int64) (10 : Int64) = _
  rw [leave_S (by omega) (by decide) (by decide) (by rw [h1]; decide)]
  show fX10_leave_L24 (99997 + 1) (TM σ f (n + 2)) (0 : Int64) (0 : Int64) = _
  rw [fX10_leave_L24, if_pos (by decide)]
theorem body_dec (σ : Sto) (n : Nat) (s b : Nat) (h : (s, b) ∈ [(1, 11), (2, 12), (3, 11), (4, 13), (5, 14)]) : fX0_bodyFor_L7 σ (n + 7) 0 (nI s) 0 0 = some (nI b) := by
  simp only [List.mem_cons, Prod.mk.injEq, List.not_mem_nil, or_false] at h
  rcases h with ⟨rfl, rfl⟩ | ⟨rfl, rfl⟩ | ⟨rfl, rfl⟩ | ⟨rfl, rfl⟩ | ⟨rfl, rfl⟩
  all_goals rfl
theorem body_dec1 (σ : Sto) (n : Nat) (s b : Nat) (h : (s, b) ∈ [(1, 21), (2, 24), (3, 22), (4, 23), (5, 23)]) : fX0_bodyFor_L7 σ (n + 7) 1 (nI s) 0 0 = some (nI b) := by
  simp only [List.mem_cons, Prod.mk.injEq, List.not_mem_nil, or_false] at h
  rcases h with ⟨rfl, rfl⟩ | ⟨rfl, rfl⟩ | ⟨rfl, rfl⟩ | ⟨rfl, rfl⟩ | ⟨rfl, rfl⟩
  all_goals rfl
theorem body_0 {σ : Sto} {s b : Nat} (h : (s, b) ∈ [(1, 11), (2, 12), (3, 11), (4, 13), (5, 14)]) : fX0_bodyFor σ (nI s) 0 = some (nI b) := body_dec σ 99993 s b h
theorem body_1 {σ : Sto} {s b : Nat} (h : (s, b) ∈ [(1, 21), (2, 24), (3, 22), (4, 23), (5, 23)]) : fX0_bodyFor σ (nI s) 1 = some (nI b) := body_dec1 σ 99993 s b h

theorem giv_10 (rc : Sto → Nat → Int32 → Int32 → Int32 → Option (Sto × Int32)) (σ : Sto) (v : Nat) (x2 x4 : Int32) (h : x4 ≤ (16 : Int32)) : fX0_give rc σ v x2 (10 : Int32) x4 = bd (fX0_begin σ (10 : Int32)) fun q_1 => gd (vin x2 6) (some (q_1, (q_1 (v + 5) x2.toNatClampNeg))) := by
  unfold fX0_give
  rw [if_pos h]
  rfl
theorem giv_11 (rc : Sto → Nat → Int32 → Int32 → Int32 → Option (Sto × Int32)) (σ : Sto) (v : Nat) (x2 x4 : Int32) (h : x4 ≤ (16 : Int32)) : fX0_give rc σ v x2 (11 : Int32) x4 = bd (fX0_begin σ (11 : Int32)) fun q_1 => bd (rc q_1 v x2 (10 : Int32) (x4 + (1 : Int32))) fun q_5 => bd (fX0_anew rc q_5.1 v x2 (1 : Int32) x4) fun q_6 => some (q_6.1, (q_5.2 + q_6.2)) := by
  unfold fX0_give
  rw [if_pos h]
  rfl
theorem giv_12 (rc : Sto → Nat → Int32 → Int32 → Int32 → Option (Sto × Int32)) (σ : Sto) (v : Nat) (x2 x4 : Int32) (h : x4 ≤ (16 : Int32)) : fX0_give rc σ v x2 (12 : Int32) x4 = bd (fX0_begin σ (12 : Int32)) fun q_1 => bd (rc q_1 v x2 (11 : Int32) (x4 + (1 : Int32))) fun q_8 => some (q_8.1, ((0 : Int32) - q_8.2)) := by
  unfold fX0_give
  rw [if_pos h]
  rfl
theorem giv_13 (rc : Sto → Nat → Int32 → Int32 → Int32 → Option (Sto × Int32)) (σ : Sto) (v : Nat) (x2 x4 : Int32) (h : x4 ≤ (16 : Int32)) : fX0_give rc σ v x2 (13 : Int32) x4 = bd (fX0_begin σ (13 : Int32)) fun q_1 => bd (rc q_1 v x2 (10 : Int32) (x4 + (1 : Int32))) fun q_10 => some (q_10.1, (q_10.2 - (100 : Int32))) := by
  unfold fX0_give
  rw [if_pos h]
  rfl
theorem giv_14 (rc : Sto → Nat → Int32 → Int32 → Int32 → Option (Sto × Int32)) (σ : Sto) (v : Nat) (x2 x4 : Int32) (h : x4 ≤ (16 : Int32)) : fX0_give rc σ v x2 (14 : Int32) x4 = bd (fX0_begin σ (14 : Int32)) fun q_1 => bd (rc q_1 v x2 (13 : Int32) (x4 + (1 : Int32))) fun q_12 => some (q_12.1, ((2 : Int32) * q_12.2)) := by
  unfold fX0_give
  rw [if_pos h]
  rfl
theorem giv_20 (rc : Sto → Nat → Int32 → Int32 → Int32 → Option (Sto × Int32)) (σ : Sto) (v : Nat) (x2 x4 : Int32) (h : x4 ≤ (16 : Int32)) : fX0_give rc σ v x2 (20 : Int32) x4 = bd (fX0_begin σ (20 : Int32)) fun q_1 => some (q_1, x2) := by
  unfold fX0_give
  rw [if_pos h]
  rfl
theorem giv_21 (rc : Sto → Nat → Int32 → Int32 → Int32 → Option (Sto × Int32)) (σ : Sto) (v : Nat) (x2 x4 : Int32) (h : x4 ≤ (16 : Int32)) : fX0_give rc σ v x2 (21 : Int32) x4 = bd (fX0_begin σ (21 : Int32)) fun q_1 => bd (rc q_1 v x2 (20 : Int32) (x4 + (1 : Int32))) fun q_20 => gd (vin x2 6) (some (q_20.1, (q_20.2 + (q_20.1 (v + 7) x2.toNatClampNeg)))) := by
  unfold fX0_give
  rw [if_pos h]
  rfl
theorem giv_22 (rc : Sto → Nat → Int32 → Int32 → Int32 → Option (Sto × Int32)) (σ : Sto) (v : Nat) (x2 x4 : Int32) (h : x4 ≤ (16 : Int32)) : fX0_give rc σ v x2 (22 : Int32) x4 = bd (fX0_begin σ (22 : Int32)) fun q_1 => bd (rc q_1 v x2 (21 : Int32) (x4 + (1 : Int32))) fun q_23 => some (q_23.1, (q_23.2 - (1000 : Int32))) := by
  unfold fX0_give
  rw [if_pos h]
  rfl
theorem giv_23 (rc : Sto → Nat → Int32 → Int32 → Int32 → Option (Sto × Int32)) (σ : Sto) (v : Nat) (x2 x4 : Int32) (h : x4 ≤ (16 : Int32)) : fX0_give rc σ v x2 (23 : Int32) x4 = bd (fX0_begin σ (23 : Int32)) fun q_1 => bd (rc q_1 v x2 (20 : Int32) (x4 + (1 : Int32))) fun q_25 => bd (fX0_anew rc q_25.1 v x2 (0 : Int32) x4) fun q_26 => some (q_26.1, (q_25.2 - q_26.2)) := by
  unfold fX0_give
  rw [if_pos h]
  rfl
theorem giv_24 (rc : Sto → Nat → Int32 → Int32 → Int32 → Option (Sto × Int32)) (σ : Sto) (v : Nat) (x2 x4 : Int32) (h : x4 ≤ (16 : Int32)) : fX0_give rc σ v x2 (24 : Int32) x4 = bd (fX0_begin σ (24 : Int32)) fun q_1 => bd (rc q_1 v x2 (21 : Int32) (x4 + (1 : Int32))) fun q_28 => some (q_28.1, ((2 : Int32) * q_28.2)) := by
  unfold fX0_give
  rw [if_pos h]
  rfl
theorem gv_10 {σ : Sto} {f : Nat → Nat} {u : Nat → Nat} {k n d dp : Nat} (hx : VX σ 36 u) (hk : k < u 1) (h1 : u 1 ≤ 6) (hd : dp + 1 ≤ 17) (hn : n + 1 ≤ 16) (f0 : f n = 10) : fX0_giveD (d + 1) (TX σ f n) 36 (nI k) (10 : Int32) (nI dp) = some (TX σ f (n + 1), nI (u (41 + k))) := by
  have h16 : nI dp ≤ (16 : Int32) := nI_le (b := 16) (by omega) (by decide)
  show fX0_give (fX0_giveD (d + 0)) (TX σ f n) 36 (nI k) (10 : Int32) (nI dp) = _
  rw [giv_10 _ _ _ _ _ h16, begin_X (by omega) (by rw [f0]; rfl), bd_s]
  rw [vin_t (by omega) (by decide), gd_t, nI_clamp (by omega), TX_o (by decide) (by decide), (hx.2.2 k hk).2.1]
theorem gv_20 {σ : Sto} {f : Nat → Nat} {u : Nat → Nat} {k n d dp : Nat} (hx : VX σ 36 u) (hk : k < u 1) (h1 : u 1 ≤ 6) (hd : dp + 1 ≤ 17) (hn : n + 1 ≤ 16) (f0 : f n = 20) : fX0_giveD (d + 1) (TX σ f n) 36 (nI k) (20 : Int32) (nI dp) = some (TX σ f (n + 1), nI k) := by
  have h16 : nI dp ≤ (16 : Int32) := nI_le (b := 16) (by omega) (by decide)
  show fX0_give (fX0_giveD (d + 0)) (TX σ f n) 36 (nI k) (20 : Int32) (nI dp) = _
  rw [giv_20 _ _ _ _ _ h16, begin_X (by omega) (by rw [f0]; rfl), bd_s]
theorem gv_21 {σ : Sto} {f : Nat → Nat} {u : Nat → Nat} {k n d dp : Nat} (hx : VX σ 36 u) (hk : k < u 1) (h1 : u 1 ≤ 6) (hd : dp + 2 ≤ 17) (hn : n + 2 ≤ 16) (f0 : f n = 21) (f1 : f (n + 1) = 20) : fX0_giveD (d + 2) (TX σ f n) 36 (nI k) (21 : Int32) (nI dp) = some (TX σ f (n + 2), (nI k + nI (u (47 + k)))) := by
  have h16 : nI dp ≤ (16 : Int32) := nI_le (b := 16) (by omega) (by decide)
  show fX0_give (fX0_giveD (d + 1)) (TX σ f n) 36 (nI k) (21 : Int32) (nI dp) = _
  rw [giv_21 _ _ _ _ _ h16, begin_X (by omega) (by rw [f0]; rfl), bd_s]
  have q : fX0_giveD (d + 1) (TX σ f (n + 1)) 36 (nI k) (20 : Int32) (nI (dp + 1)) = some (TX σ f (n + 2), nI k) := gv_20 (d := d + 0) (n := n + 1) hx hk h1 (by omega) (by omega) f1
  rw [n32_1, nI_add, q, bd_s, vin_t (by omega) (by decide), gd_t, nI_clamp (by omega)]
  simp only []
  rw [TX_o (by decide) (by decide), (hx.2.2 k hk).2.2.2]
theorem gv_22 {σ : Sto} {f : Nat → Nat} {u : Nat → Nat} {k n d dp : Nat} (hx : VX σ 36 u) (hk : k < u 1) (h1 : u 1 ≤ 6) (hd : dp + 3 ≤ 17) (hn : n + 3 ≤ 16) (f0 : f n = 22) (f1 : f (n + 1) = 21) (f2 : f (n + 2) = 20) : fX0_giveD (d + 3) (TX σ f n) 36 (nI k) (22 : Int32) (nI dp) = some (TX σ f (n + 3), ((nI k + nI (u (47 + k))) - (1000 : Int32))) := by
  have h16 : nI dp ≤ (16 : Int32) := nI_le (b := 16) (by omega) (by decide)
  show fX0_give (fX0_giveD (d + 2)) (TX σ f n) 36 (nI k) (22 : Int32) (nI dp) = _
  rw [giv_22 _ _ _ _ _ h16, begin_X (by omega) (by rw [f0]; rfl), bd_s]
  have q : fX0_giveD (d + 2) (TX σ f (n + 1)) 36 (nI k) (21 : Int32) (nI (dp + 1)) = some (TX σ f (n + 3), (nI k + nI (u (47 + k)))) := gv_21 (d := d + 0) (n := n + 1) hx hk h1 (by omega) (by omega) f1 f2
  rw [n32_1, nI_add, q, bd_s]
theorem gv_24 {σ : Sto} {f : Nat → Nat} {u : Nat → Nat} {k n d dp : Nat} (hx : VX σ 36 u) (hk : k < u 1) (h1 : u 1 ≤ 6) (hd : dp + 3 ≤ 17) (hn : n + 3 ≤ 16) (f0 : f n = 24) (f1 : f (n + 1) = 21) (f2 : f (n + 2) = 20) : fX0_giveD (d + 3) (TX σ f n) 36 (nI k) (24 : Int32) (nI dp) = some (TX σ f (n + 3), ((2 : Int32) * (nI k + nI (u (47 + k))))) := by
  have h16 : nI dp ≤ (16 : Int32) := nI_le (b := 16) (by omega) (by decide)
  show fX0_give (fX0_giveD (d + 2)) (TX σ f n) 36 (nI k) (24 : Int32) (nI dp) = _
  rw [giv_24 _ _ _ _ _ h16, begin_X (by omega) (by rw [f0]; rfl), bd_s]
  have q : fX0_giveD (d + 2) (TX σ f (n + 1)) 36 (nI k) (21 : Int32) (nI (dp + 1)) = some (TX σ f (n + 3), (nI k + nI (u (47 + k)))) := gv_21 (d := d + 0) (n := n + 1) hx hk h1 (by omega) (by omega) f1 f2
  rw [n32_1, nI_add, q, bd_s]
theorem gv_13 {σ : Sto} {f : Nat → Nat} {u : Nat → Nat} {k n d dp : Nat} (hx : VX σ 36 u) (hk : k < u 1) (h1 : u 1 ≤ 6) (hd : dp + 2 ≤ 17) (hn : n + 2 ≤ 16) (f0 : f n = 13) (f1 : f (n + 1) = 10) : fX0_giveD (d + 2) (TX σ f n) 36 (nI k) (13 : Int32) (nI dp) = some (TX σ f (n + 2), (nI (u (41 + k)) - (100 : Int32))) := by
  have h16 : nI dp ≤ (16 : Int32) := nI_le (b := 16) (by omega) (by decide)
  show fX0_give (fX0_giveD (d + 1)) (TX σ f n) 36 (nI k) (13 : Int32) (nI dp) = _
  rw [giv_13 _ _ _ _ _ h16, begin_X (by omega) (by rw [f0]; rfl), bd_s]
  have q : fX0_giveD (d + 1) (TX σ f (n + 1)) 36 (nI k) (10 : Int32) (nI (dp + 1)) = some (TX σ f (n + 2), nI (u (41 + k))) := gv_10 (d := d + 0) (n := n + 1) hx hk h1 (by omega) (by omega) f1
  rw [n32_1, nI_add, q, bd_s]
theorem gv_14 {σ : Sto} {f : Nat → Nat} {u : Nat → Nat} {k n d dp : Nat} (hx : VX σ 36 u) (hk : k < u 1) (h1 : u 1 ≤ 6) (hd : dp + 3 ≤ 17) (hn : n + 3 ≤ 16) (f0 : f n = 14) (f1 : f (n + 1) = 13) (f2 : f (n + 2) = 10) : fX0_giveD (d + 3) (TX σ f n) 36 (nI k) (14 : Int32) (nI dp) = some (TX σ f (n + 3), ((2 : Int32) * (nI (u (41 + k)) - (100 : Int32)))) := by
  have h16 : nI dp ≤ (16 : Int32) := nI_le (b := 16) (by omega) (by decide)
  show fX0_give (fX0_giveD (d + 2)) (TX σ f n) 36 (nI k) (14 : Int32) (nI dp) = _
  rw [giv_14 _ _ _ _ _ h16, begin_X (by omega) (by rw [f0]; rfl), bd_s]
  have q : fX0_giveD (d + 2) (TX σ f (n + 1)) 36 (nI k) (13 : Int32) (nI (dp + 1)) = some (TX σ f (n + 3), (nI (u (41 + k)) - (100 : Int32))) := gv_13 (d := d + 0) (n := n + 1) hx hk h1 (by omega) (by omega) f1 f2
  rw [n32_1, nI_add, q, bd_s]
theorem gv_11_1 {σ : Sto} {f : Nat → Nat} {u : Nat → Nat} {k n d dp : Nat} (hx : VX σ 36 u) (hk : k < u 1) (h1 : u 1 ≤ 6) (hd : dp + 4 ≤ 17) (hs : u (35 + k) = 1) (hn : n + 4 ≤ 16) (f0 : f n = 11) (f1 : f (n + 1) = 10) (f2 : f (n + 2) = 21) (f3 : f (n + 3) = 20) : fX0_giveD (d + 4) (TX σ f n) 36 (nI k) (11 : Int32) (nI dp) = some (TX σ f (n + 4), (nI (u (41 + k)) + (nI k + nI (u (47 + k))))) := by
  have h16 : nI dp ≤ (16 : Int32) := nI_le (b := 16) (by omega) (by decide)
  show fX0_give (fX0_giveD (d + 3)) (TX σ f n) 36 (nI k) (11 : Int32) (nI dp) = _
  rw [giv_11 _ _ _ _ _ h16, begin_X (by omega) (by rw [f0]; rfl), bd_s]
  have q : fX0_giveD (d + 3) (TX σ f (n + 1)) 36 (nI k) (10 : Int32) (nI (dp + 1)) = some (TX σ f (n + 2), nI (u (41 + k))) := gv_10 (d := d + 2) (n := n + 1) hx hk h1 (by omega) (by omega) f1
  have q2 : fX0_giveD (d + 3) (TX σ f (n + 2)) 36 (nI k) (21 : Int32) (nI (dp + 1)) = some (TX σ f (n + 4), (nI k + nI (u (47 + k)))) := gv_21 (d := d + 1) (n := n + 2) hx hk h1 (by omega) (by omega) f2 f3
  have hs4 : TX σ f (n + 2) (36 + 4) k = nI 1 := by rw [TX_o (by decide) (by decide), (hx.2.2 k hk).1, hs]
  rw [n32_1, nI_add, q, bd_s]
  unfold fX0_anew
  rw [vin_t (by omega) (by decide), gd_t, nI_clamp (by omega)]
  simp only []
  rw [hs4, show fX0_bodyFor (TX σ f (n + 2)) (nI 1) (nI 1) = some (nI 21) from body_1 (by decide), bd_s, n32_1, nI_add, show fX0_giveD (d + 3) (TX σ f (n + 2)) 36 (nI k) (nI 21) (nI (dp + 1)) = _ from q2, bd_s, bd_s]
theorem gv_11_2 {σ : Sto} {f : Nat → Nat} {u : Nat → Nat} {k n d dp : Nat} (hx : VX σ 36 u) (hk : k < u 1) (h1 : u 1 ≤ 6) (hd : dp + 4 ≤ 17) (hs : u (35 + k) = 2) (hn : n + 5 ≤ 16) (f0 : f n = 11) (f1 : f (n + 1) = 10) (f2 : f (n + 2) = 24) (f3 : f (n + 3) = 21) (f4 : f (n + 4) = 20) : fX0_giveD (d + 4) (TX σ f n) 36 (nI k) (11 : Int32) (nI dp) = some (TX σ f (n + 5), (nI (u (41 + k)) + ((2 : Int32) * (nI k + nI (u (47 + k)))))) := by
  have h16 : nI dp ≤ (16 : Int32) := nI_le (b := 16) (by omega) (by decide)
  show fX0_give (fX0_giveD (d + 3)) (TX σ f n) 36 (nI k) (11 : Int32) (nI dp) = _
  rw [giv_11 _ _ _ _ _ h16, begin_X (by omega) (by rw [f0]; rfl), bd_s]
  have q : fX0_giveD (d + 3) (TX σ f (n + 1)) 36 (nI k) (10 : Int32) (nI (dp + 1)) = some (TX σ f (n + 2), nI (u (41 + k))) := gv_10 (d := d + 2) (n := n + 1) hx hk h1 (by omega) (by omega) f1
  have q2 : fX0_giveD (d + 3) (TX σ f (n + 2)) 36 (nI k) (24 : Int32) (nI (dp + 1)) = some (TX σ f (n + 5), ((2 : Int32) * (nI k + nI (u (47 + k))))) := gv_24 (d := d + 0) (n := n + 2) hx hk h1 (by omega) (by omega) f2 f3 f4
  have hs4 : TX σ f (n + 2) (36 + 4) k = nI 2 := by rw [TX_o (by decide) (by decide), (hx.2.2 k hk).1, hs]
  rw [n32_1, nI_add, q, bd_s]
  unfold fX0_anew
  rw [vin_t (by omega) (by decide), gd_t, nI_clamp (by omega)]
  simp only []
  rw [hs4, show fX0_bodyFor (TX σ f (n + 2)) (nI 2) (nI 1) = some (nI 24) from body_1 (by decide), bd_s, n32_1, nI_add, show fX0_giveD (d + 3) (TX σ f (n + 2)) 36 (nI k) (nI 24) (nI (dp + 1)) = _ from q2, bd_s, bd_s]
theorem gv_11_3 {σ : Sto} {f : Nat → Nat} {u : Nat → Nat} {k n d dp : Nat} (hx : VX σ 36 u) (hk : k < u 1) (h1 : u 1 ≤ 6) (hd : dp + 4 ≤ 17) (hs : u (35 + k) = 3) (hn : n + 5 ≤ 16) (f0 : f n = 11) (f1 : f (n + 1) = 10) (f2 : f (n + 2) = 22) (f3 : f (n + 3) = 21) (f4 : f (n + 4) = 20) : fX0_giveD (d + 4) (TX σ f n) 36 (nI k) (11 : Int32) (nI dp) = some (TX σ f (n + 5), (nI (u (41 + k)) + ((nI k + nI (u (47 + k))) - (1000 : Int32)))) := by
  have h16 : nI dp ≤ (16 : Int32) := nI_le (b := 16) (by omega) (by decide)
  show fX0_give (fX0_giveD (d + 3)) (TX σ f n) 36 (nI k) (11 : Int32) (nI dp) = _
  rw [giv_11 _ _ _ _ _ h16, begin_X (by omega) (by rw [f0]; rfl), bd_s]
  have q : fX0_giveD (d + 3) (TX σ f (n + 1)) 36 (nI k) (10 : Int32) (nI (dp + 1)) = some (TX σ f (n + 2), nI (u (41 + k))) := gv_10 (d := d + 2) (n := n + 1) hx hk h1 (by omega) (by omega) f1
  have q2 : fX0_giveD (d + 3) (TX σ f (n + 2)) 36 (nI k) (22 : Int32) (nI (dp + 1)) = some (TX σ f (n + 5), ((nI k + nI (u (47 + k))) - (1000 : Int32))) := gv_22 (d := d + 0) (n := n + 2) hx hk h1 (by omega) (by omega) f2 f3 f4
  have hs4 : TX σ f (n + 2) (36 + 4) k = nI 3 := by rw [TX_o (by decide) (by decide), (hx.2.2 k hk).1, hs]
  rw [n32_1, nI_add, q, bd_s]
  unfold fX0_anew
  rw [vin_t (by omega) (by decide), gd_t, nI_clamp (by omega)]
  simp only []
  rw [hs4, show fX0_bodyFor (TX σ f (n + 2)) (nI 3) (nI 1) = some (nI 22) from body_1 (by decide), bd_s, n32_1, nI_add, show fX0_giveD (d + 3) (TX σ f (n + 2)) 36 (nI k) (nI 22) (nI (dp + 1)) = _ from q2, bd_s, bd_s]
theorem gv_12 {σ : Sto} {f : Nat → Nat} {u : Nat → Nat} {k n d dp : Nat} (hx : VX σ 36 u) (hk : k < u 1) (h1 : u 1 ≤ 6) (hd : dp + 5 ≤ 17) (hs : u (35 + k) = 2) (hn : n + 6 ≤ 16) (f0 : f n = 12) (f1 : f (n + 1) = 11) (f2 : f (n + 2) = 10) (f3 : f (n + 3) = 24) (f4 : f (n + 4) = 21) (f5 : f (n + 5) = 20) : fX0_giveD (d + 5) (TX σ f n) 36 (nI k) (12 : Int32) (nI dp) = some (TX σ f (n + 6), ((0 : Int32) - (nI (u (41 + k)) + ((2 : Int32) * (nI k + nI (u (47 + k))))))) := by
  have h16 : nI dp ≤ (16 : Int32) := nI_le (b := 16) (by omega) (by decide)
  show fX0_give (fX0_giveD (d + 4)) (TX σ f n) 36 (nI k) (12 : Int32) (nI dp) = _
  rw [giv_12 _ _ _ _ _ h16, begin_X (by omega) (by rw [f0]; rfl), bd_s]
  have q : fX0_giveD (d + 4) (TX σ f (n + 1)) 36 (nI k) (11 : Int32) (nI (dp + 1)) = some (TX σ f (n + 6), (nI (u (41 + k)) + ((2 : Int32) * (nI k + nI (u (47 + k)))))) := gv_11_2 (d := d + 0) (n := n + 1) hx hk h1 (by omega) hs (by omega) f1 f2 f3 f4 f5
  rw [n32_1, nI_add, q, bd_s]
theorem gv_23_4 {σ : Sto} {f : Nat → Nat} {u : Nat → Nat} {k n d dp : Nat} (hx : VX σ 36 u) (hk : k < u 1) (h1 : u 1 ≤ 6) (hd : dp + 4 ≤ 17) (hs : u (35 + k) = 4) (hn : n + 4 ≤ 16) (f0 : f n = 23) (f1 : f (n + 1) = 20) (f2 : f (n + 2) = 13) (f3 : f (n + 3) = 10) : fX0_giveD (d + 4) (TX σ f n) 36 (nI k) (23 : Int32) (nI dp) = some (TX σ f (n + 4), (nI k - (nI (u (41 + k)) - (100 : Int32)))) := by
  have h16 : nI dp ≤ (16 : Int32) := nI_le (b := 16) (by omega) (by decide)
  show fX0_give (fX0_giveD (d + 3)) (TX σ f n) 36 (nI k) (23 : Int32) (nI dp) = _
  rw [giv_23 _ _ _ _ _ h16, begin_X (by omega) (by rw [f0]; rfl), bd_s]
  have q : fX0_giveD (d + 3) (TX σ f (n + 1)) 36 (nI k) (20 : Int32) (nI (dp + 1)) = some (TX σ f (n + 2), nI k) := gv_20 (d := d + 2) (n := n + 1) hx hk h1 (by omega) (by omega) f1
  have q2 : fX0_giveD (d + 3) (TX σ f (n + 2)) 36 (nI k) (13 : Int32) (nI (dp + 1)) = some (TX σ f (n + 4), (nI (u (41 + k)) - (100 : Int32))) := gv_13 (d := d + 1) (n := n + 2) hx hk h1 (by omega) (by omega) f2 f3
  have hs4 : TX σ f (n + 2) (36 + 4) k = nI 4 := by rw [TX_o (by decide) (by decide), (hx.2.2 k hk).1, hs]
  rw [n32_1, nI_add, q, bd_s]
  unfold fX0_anew
  rw [vin_t (by omega) (by decide), gd_t, nI_clamp (by omega)]
  simp only []
  rw [hs4, body_0 (s := 4) (b := 13) (by decide), bd_s, n32_1, nI_add, show fX0_giveD (d + 3) (TX σ f (n + 2)) 36 (nI k) (nI 13) (nI (dp + 1)) = _ from q2, bd_s, bd_s]
theorem gv_23_5 {σ : Sto} {f : Nat → Nat} {u : Nat → Nat} {k n d dp : Nat} (hx : VX σ 36 u) (hk : k < u 1) (h1 : u 1 ≤ 6) (hd : dp + 4 ≤ 17) (hs : u (35 + k) = 5) (hn : n + 5 ≤ 16) (f0 : f n = 23) (f1 : f (n + 1) = 20) (f2 : f (n + 2) = 14) (f3 : f (n + 3) = 13) (f4 : f (n + 4) = 10) : fX0_giveD (d + 4) (TX σ f n) 36 (nI k) (23 : Int32) (nI dp) = some (TX σ f (n + 5), (nI k - ((2 : Int32) * (nI (u (41 + k)) - (100 : Int32))))) := by
  have h16 : nI dp ≤ (16 : Int32) := nI_le (b := 16) (by omega) (by decide)
  show fX0_give (fX0_giveD (d + 3)) (TX σ f n) 36 (nI k) (23 : Int32) (nI dp) = _
  rw [giv_23 _ _ _ _ _ h16, begin_X (by omega) (by rw [f0]; rfl), bd_s]
  have q : fX0_giveD (d + 3) (TX σ f (n + 1)) 36 (nI k) (20 : Int32) (nI (dp + 1)) = some (TX σ f (n + 2), nI k) := gv_20 (d := d + 2) (n := n + 1) hx hk h1 (by omega) (by omega) f1
  have q2 : fX0_giveD (d + 3) (TX σ f (n + 2)) 36 (nI k) (14 : Int32) (nI (dp + 1)) = some (TX σ f (n + 5), ((2 : Int32) * (nI (u (41 + k)) - (100 : Int32)))) := gv_14 (d := d + 0) (n := n + 2) hx hk h1 (by omega) (by omega) f2 f3 f4
  have hs4 : TX σ f (n + 2) (36 + 4) k = nI 5 := by rw [TX_o (by decide) (by decide), (hx.2.2 k hk).1, hs]
  rw [n32_1, nI_add, q, bd_s]
  unfold fX0_anew
  rw [vin_t (by omega) (by decide), gd_t, nI_clamp (by omega)]
  simp only []
  rw [hs4, body_0 (s := 5) (b := 14) (by decide), bd_s, n32_1, nI_add, show fX0_giveD (d + 3) (TX σ f (n + 2)) 36 (nI k) (nI 14) (nI (dp + 1)) = _ from q2, bd_s, bd_s]
def tq_10 : Nat → Nat := fun j => [11, 10, 21, 20].getD j 0
theorem an_10 {σ : Sto} {u : Nat → Nat} {k : Nat} (hx : VX σ 36 u) (hk : k < u 1) (h1 : u 1 ≤ 6) (hs : u (35 + k) = 1) : fX0_answer σ 36 (nI k) (nI 0) = some (TX σ tq_10 4, (nI (u (41 + k)) + (nI k + nI (u (47 + k))))) := by
  have e0 : up σ 26 0 (0 : Int32) = TX σ tq_10 0 := by unfold TX; rw [SO_0]; rfl
  have hs4 : TX σ tq_10 0 (36 + 4) k = nI 1 := by rw [TX_o (by decide) (by decide), (hx.2.2 k hk).1, hs]
  have q : fX0_giveD 18 (TX σ tq_10 0) 36 (nI k) (11 : Int32) (nI 0) = some (TX σ tq_10 4, (nI (u (41 + k)) + (nI k + nI (u (47 + k))))) := by
    have := gv_11_1 (σ := σ) (f := tq_10) (n := 0) (d := 14) (dp := 0) hx hk h1 (by decide) hs (by decide) rfl rfl rfl rfl
    rw [Nat.zero_add] at this
    exact this
  unfold fX0_answer fX0_giveR
  simp only [un]
  rw [e0, vin_t (by omega) (by decide), gd_t, nI_clamp (by omega), hs4, show fX0_bodyFor (TX σ tq_10 0) (nI 1) (nI 0) = some (nI 11) from body_0 (by decide), bd_s, show fX0_giveD 18 (TX σ tq_10 0) 36 (nI k) (nI 11) (0 : Int32) = _ from q, bd_s]
def tq_20 : Nat → Nat := fun j => [12, 11, 10, 24, 21, 20].getD j 0
theorem an_20 {σ : Sto} {u : Nat → Nat} {k : Nat} (hx : VX σ 36 u) (hk : k < u 1) (h1 : u 1 ≤ 6) (hs : u (35 + k) = 2) : fX0_answer σ 36 (nI k) (nI 0) = some (TX σ tq_20 6, ((0 : Int32) - (nI (u (41 + k)) + ((2 : Int32) * (nI k + nI (u (47 + k))))))) := by
  have e0 : up σ 26 0 (0 : Int32) = TX σ tq_20 0 := by unfold TX; rw [SO_0]; rfl
  have hs4 : TX σ tq_20 0 (36 + 4) k = nI 2 := by rw [TX_o (by decide) (by decide), (hx.2.2 k hk).1, hs]
  have q : fX0_giveD 18 (TX σ tq_20 0) 36 (nI k) (12 : Int32) (nI 0) = some (TX σ tq_20 6, ((0 : Int32) - (nI (u (41 + k)) + ((2 : Int32) * (nI k + nI (u (47 + k))))))) := by
    have := gv_12 (σ := σ) (f := tq_20) (n := 0) (d := 13) (dp := 0) hx hk h1 (by decide) hs (by decide) rfl rfl rfl rfl rfl rfl
    rw [Nat.zero_add] at this
    exact this
  unfold fX0_answer fX0_giveR
  simp only [un]
  rw [e0, vin_t (by omega) (by decide), gd_t, nI_clamp (by omega), hs4, show fX0_bodyFor (TX σ tq_20 0) (nI 2) (nI 0) = some (nI 12) from body_0 (by decide), bd_s, show fX0_giveD 18 (TX σ tq_20 0) 36 (nI k) (nI 12) (0 : Int32) = _ from q, bd_s]
def tq_30 : Nat → Nat := fun j => [11, 10, 22, 21, 20].getD j 0
theorem an_30 {σ : Sto} {u : Nat → Nat} {k : Nat} (hx : VX σ 36 u) (hk : k < u 1) (h1 : u 1 ≤ 6) (hs : u (35 + k) = 3) : fX0_answer σ 36 (nI k) (nI 0) = some (TX σ tq_30 5, (nI (u (41 + k)) + ((nI k + nI (u (47 + k))) - (1000 : Int32)))) := by
  have e0 : up σ 26 0 (0 : Int32) = TX σ tq_30 0 := by unfold TX; rw [SO_0]; rfl
  have hs4 : TX σ tq_30 0 (36 + 4) k = nI 3 := by rw [TX_o (by decide) (by decide), (hx.2.2 k hk).1, hs]
  have q : fX0_giveD 18 (TX σ tq_30 0) 36 (nI k) (11 : Int32) (nI 0) = some (TX σ tq_30 5, (nI (u (41 + k)) + ((nI k + nI (u (47 + k))) - (1000 : Int32)))) := by
    have := gv_11_3 (σ := σ) (f := tq_30) (n := 0) (d := 14) (dp := 0) hx hk h1 (by decide) hs (by decide) rfl rfl rfl rfl rfl
    rw [Nat.zero_add] at this
    exact this
  unfold fX0_answer fX0_giveR
  simp only [un]
  rw [e0, vin_t (by omega) (by decide), gd_t, nI_clamp (by omega), hs4, show fX0_bodyFor (TX σ tq_30 0) (nI 3) (nI 0) = some (nI 11) from body_0 (by decide), bd_s, show fX0_giveD 18 (TX σ tq_30 0) 36 (nI k) (nI 11) (0 : Int32) = _ from q, bd_s]
def tq_40 : Nat → Nat := fun j => [13, 10].getD j 0
theorem an_40 {σ : Sto} {u : Nat → Nat} {k : Nat} (hx : VX σ 36 u) (hk : k < u 1) (h1 : u 1 ≤ 6) (hs : u (35 + k) = 4) : fX0_answer σ 36 (nI k) (nI 0) = some (TX σ tq_40 2, (nI (u (41 + k)) - (100 : Int32))) := by
  have e0 : up σ 26 0 (0 : Int32) = TX σ tq_40 0 := by unfold TX; rw [SO_0]; rfl
  have hs4 : TX σ tq_40 0 (36 + 4) k = nI 4 := by rw [TX_o (by decide) (by decide), (hx.2.2 k hk).1, hs]
  have q : fX0_giveD 18 (TX σ tq_40 0) 36 (nI k) (13 : Int32) (nI 0) = some (TX σ tq_40 2, (nI (u (41 + k)) - (100 : Int32))) := by
    have := gv_13 (σ := σ) (f := tq_40) (n := 0) (d := 16) (dp := 0) hx hk h1 (by decide) (by decide) rfl rfl
    rw [Nat.zero_add] at this
    exact this
  unfold fX0_answer fX0_giveR
  simp only [un]
  rw [e0, vin_t (by omega) (by decide), gd_t, nI_clamp (by omega), hs4, show fX0_bodyFor (TX σ tq_40 0) (nI 4) (nI 0) = some (nI 13) from body_0 (by decide), bd_s, show fX0_giveD 18 (TX σ tq_40 0) 36 (nI k) (nI 13) (0 : Int32) = _ from q, bd_s]
def tq_50 : Nat → Nat := fun j => [14, 13, 10].getD j 0
theorem an_50 {σ : Sto} {u : Nat → Nat} {k : Nat} (hx : VX σ 36 u) (hk : k < u 1) (h1 : u 1 ≤ 6) (hs : u (35 + k) = 5) : fX0_answer σ 36 (nI k) (nI 0) = some (TX σ tq_50 3, ((2 : Int32) * (nI (u (41 + k)) - (100 : Int32)))) := by
  have e0 : up σ 26 0 (0 : Int32) = TX σ tq_50 0 := by unfold TX; rw [SO_0]; rfl
  have hs4 : TX σ tq_50 0 (36 + 4) k = nI 5 := by rw [TX_o (by decide) (by decide), (hx.2.2 k hk).1, hs]
  have q : fX0_giveD 18 (TX σ tq_50 0) 36 (nI k) (14 : Int32) (nI 0) = some (TX σ tq_50 3, ((2 : Int32) * (nI (u (41 + k)) - (100 : Int32)))) := by
    have := gv_14 (σ := σ) (f := tq_50) (n := 0) (d := 15) (dp := 0) hx hk h1 (by decide) (by decide) rfl rfl rfl
    rw [Nat.zero_add] at this
    exact this
  unfold fX0_answer fX0_giveR
  simp only [un]
  rw [e0, vin_t (by omega) (by decide), gd_t, nI_clamp (by omega), hs4, show fX0_bodyFor (TX σ tq_50 0) (nI 5) (nI 0) = some (nI 14) from body_0 (by decide), bd_s, show fX0_giveD 18 (TX σ tq_50 0) 36 (nI k) (nI 14) (0 : Int32) = _ from q, bd_s]
def tq_11 : Nat → Nat := fun j => [21, 20].getD j 0
theorem an_11 {σ : Sto} {u : Nat → Nat} {k : Nat} (hx : VX σ 36 u) (hk : k < u 1) (h1 : u 1 ≤ 6) (hs : u (35 + k) = 1) : fX0_answer σ 36 (nI k) (nI 1) = some (TX σ tq_11 2, (nI k + nI (u (47 + k)))) := by
  have e0 : up σ 26 0 (0 : Int32) = TX σ tq_11 0 := by unfold TX; rw [SO_0]; rfl
  have hs4 : TX σ tq_11 0 (36 + 4) k = nI 1 := by rw [TX_o (by decide) (by decide), (hx.2.2 k hk).1, hs]
  have q : fX0_giveD 18 (TX σ tq_11 0) 36 (nI k) (21 : Int32) (nI 0) = some (TX σ tq_11 2, (nI k + nI (u (47 + k)))) := by
    have := gv_21 (σ := σ) (f := tq_11) (n := 0) (d := 16) (dp := 0) hx hk h1 (by decide) (by decide) rfl rfl
    rw [Nat.zero_add] at this
    exact this
  unfold fX0_answer fX0_giveR
  simp only [un]
  rw [e0, vin_t (by omega) (by decide), gd_t, nI_clamp (by omega), hs4, show fX0_bodyFor (TX σ tq_11 0) (nI 1) (nI 1) = some (nI 21) from body_1 (by decide), bd_s, show fX0_giveD 18 (TX σ tq_11 0) 36 (nI k) (nI 21) (0 : Int32) = _ from q, bd_s]
def tq_21 : Nat → Nat := fun j => [24, 21, 20].getD j 0
theorem an_21 {σ : Sto} {u : Nat → Nat} {k : Nat} (hx : VX σ 36 u) (hk : k < u 1) (h1 : u 1 ≤ 6) (hs : u (35 + k) = 2) : fX0_answer σ 36 (nI k) (nI 1) = some (TX σ tq_21 3, ((2 : Int32) * (nI k + nI (u (47 + k))))) := by
  have e0 : up σ 26 0 (0 : Int32) = TX σ tq_21 0 := by unfold TX; rw [SO_0]; rfl
  have hs4 : TX σ tq_21 0 (36 + 4) k = nI 2 := by rw [TX_o (by decide) (by decide), (hx.2.2 k hk).1, hs]
  have q : fX0_giveD 18 (TX σ tq_21 0) 36 (nI k) (24 : Int32) (nI 0) = some (TX σ tq_21 3, ((2 : Int32) * (nI k + nI (u (47 + k))))) := by
    have := gv_24 (σ := σ) (f := tq_21) (n := 0) (d := 15) (dp := 0) hx hk h1 (by decide) (by decide) rfl rfl rfl
    rw [Nat.zero_add] at this
    exact this
  unfold fX0_answer fX0_giveR
  simp only [un]
  rw [e0, vin_t (by omega) (by decide), gd_t, nI_clamp (by omega), hs4, show fX0_bodyFor (TX σ tq_21 0) (nI 2) (nI 1) = some (nI 24) from body_1 (by decide), bd_s, show fX0_giveD 18 (TX σ tq_21 0) 36 (nI k) (nI 24) (0 : Int32) = _ from q, bd_s]
def tq_31 : Nat → Nat := fun j => [22, 21, 20].getD j 0
theorem an_31 {σ : Sto} {u : Nat → Nat} {k : Nat} (hx : VX σ 36 u) (hk : k < u 1) (h1 : u 1 ≤ 6) (hs : u (35 + k) = 3) : fX0_answer σ 36 (nI k) (nI 1) = some (TX σ tq_31 3, ((nI k + nI (u (47 + k))) - (1000 : Int32))) := by
  have e0 : up σ 26 0 (0 : Int32) = TX σ tq_31 0 := by unfold TX; rw [SO_0]; rfl
  have hs4 : TX σ tq_31 0 (36 + 4) k = nI 3 := by rw [TX_o (by decide) (by decide), (hx.2.2 k hk).1, hs]
  have q : fX0_giveD 18 (TX σ tq_31 0) 36 (nI k) (22 : Int32) (nI 0) = some (TX σ tq_31 3, ((nI k + nI (u (47 + k))) - (1000 : Int32))) := by
    have := gv_22 (σ := σ) (f := tq_31) (n := 0) (d := 15) (dp := 0) hx hk h1 (by decide) (by decide) rfl rfl rfl
    rw [Nat.zero_add] at this
    exact this
  unfold fX0_answer fX0_giveR
  simp only [un]
  rw [e0, vin_t (by omega) (by decide), gd_t, nI_clamp (by omega), hs4, show fX0_bodyFor (TX σ tq_31 0) (nI 3) (nI 1) = some (nI 22) from body_1 (by decide), bd_s, show fX0_giveD 18 (TX σ tq_31 0) 36 (nI k) (nI 22) (0 : Int32) = _ from q, bd_s]
def tq_41 : Nat → Nat := fun j => [23, 20, 13, 10].getD j 0
theorem an_41 {σ : Sto} {u : Nat → Nat} {k : Nat} (hx : VX σ 36 u) (hk : k < u 1) (h1 : u 1 ≤ 6) (hs : u (35 + k) = 4) : fX0_answer σ 36 (nI k) (nI 1) = some (TX σ tq_41 4, (nI k - (nI (u (41 + k)) - (100 : Int32)))) := by
  have e0 : up σ 26 0 (0 : Int32) = TX σ tq_41 0 := by unfold TX; rw [SO_0]; rfl
  have hs4 : TX σ tq_41 0 (36 + 4) k = nI 4 := by rw [TX_o (by decide) (by decide), (hx.2.2 k hk).1, hs]
  have q : fX0_giveD 18 (TX σ tq_41 0) 36 (nI k) (23 : Int32) (nI 0) = some (TX σ tq_41 4, (nI k - (nI (u (41 + k)) - (100 : Int32)))) := by
    have := gv_23_4 (σ := σ) (f := tq_41) (n := 0) (d := 14) (dp := 0) hx hk h1 (by decide) hs (by decide) rfl rfl rfl rfl
    rw [Nat.zero_add] at this
    exact this
  unfold fX0_answer fX0_giveR
  simp only [un]
  rw [e0, vin_t (by omega) (by decide), gd_t, nI_clamp (by omega), hs4, show fX0_bodyFor (TX σ tq_41 0) (nI 4) (nI 1) = some (nI 23) from body_1 (by decide), bd_s, show fX0_giveD 18 (TX σ tq_41 0) 36 (nI k) (nI 23) (0 : Int32) = _ from q, bd_s]
def tq_51 : Nat → Nat := fun j => [23, 20, 14, 13, 10].getD j 0
theorem an_51 {σ : Sto} {u : Nat → Nat} {k : Nat} (hx : VX σ 36 u) (hk : k < u 1) (h1 : u 1 ≤ 6) (hs : u (35 + k) = 5) : fX0_answer σ 36 (nI k) (nI 1) = some (TX σ tq_51 5, (nI k - ((2 : Int32) * (nI (u (41 + k)) - (100 : Int32))))) := by
  have e0 : up σ 26 0 (0 : Int32) = TX σ tq_51 0 := by unfold TX; rw [SO_0]; rfl
  have hs4 : TX σ tq_51 0 (36 + 4) k = nI 5 := by rw [TX_o (by decide) (by decide), (hx.2.2 k hk).1, hs]
  have q : fX0_giveD 18 (TX σ tq_51 0) 36 (nI k) (23 : Int32) (nI 0) = some (TX σ tq_51 5, (nI k - ((2 : Int32) * (nI (u (41 + k)) - (100 : Int32))))) := by
    have := gv_23_5 (σ := σ) (f := tq_51) (n := 0) (d := 14) (dp := 0) hx hk h1 (by decide) hs (by decide) rfl rfl rfl rfl rfl
    rw [Nat.zero_add] at this
    exact this
  unfold fX0_answer fX0_giveR
  simp only [un]
  rw [e0, vin_t (by omega) (by decide), gd_t, nI_clamp (by omega), hs4, show fX0_bodyFor (TX σ tq_51 0) (nI 5) (nI 1) = some (nI 23) from body_1 (by decide), bd_s, show fX0_giveD 18 (TX σ tq_51 0) 36 (nI k) (nI 23) (0 : Int32) = _ from q, bd_s]
theorem mk_1 {σ : Sto} {f : Nat → Nat} {u : Nat → Nat} {k n : Nat} (hu : ∀ j, j < 59 → σ 4 j = nI (u j)) (hk : k < 6) (hs : u (35 + k) = 1) (hn : n + 2 ≤ 16) (f0 : f n = 21) (f1 : f (n + 1) = 20) : fX10_mark (TM σ f n) (nI k) = some (TM σ f (n + 2), (nI k + nI (u (47 + k)))) := by
  unfold fX10_mark fX10_mark_j48
  simp only [un]
  rw [n32_35, n32_47, nI_add, nI_add, vin_t (show 35 + k < 59 by omega) (by decide), vin_t (show 47 + k < 59 by omega) (by decide), gd_t, gd_t, nI_clamp (show 35 + k < 2 ^ 31 by omega), nI_clamp (show 47 + k < 2 ^ 31 by omega), TM_o (by decide) (by decide), hu _ (by omega), hu _ (by omega), hs, leave_2120 (σ := σ) (f := f) (n := n) (by omega) f0 f1, bd_s]
  rw [if_neg (by decide), if_neg (by decide), if_neg (by decide), if_neg (by decide)]
theorem mk_2 {σ : Sto} {f : Nat → Nat} {u : Nat → Nat} {k n : Nat} (hu : ∀ j, j < 59 → σ 4 j = nI (u j)) (hk : k < 6) (hs : u (35 + k) = 2) (hn : n + 3 ≤ 16) (f0 : f n = 24) (f1 : f (n + 1) = 21) (f2 : f (n + 2) = 20) : fX10_mark (TM σ f n) (nI k) = some (TM σ f (n + 3), ((2 : Int32) * (nI k + nI (u (47 + k))))) := by
  unfold fX10_mark fX10_mark_j48
  simp only [un]
  rw [n32_35, n32_47, nI_add, nI_add, vin_t (show 35 + k < 59 by omega) (by decide), vin_t (show 47 + k < 59 by omega) (by decide), gd_t, gd_t, nI_clamp (show 35 + k < 2 ^ 31 by omega), nI_clamp (show 47 + k < 2 ^ 31 by omega), TM_o (by decide) (by decide), hu _ (by omega), hu _ (by omega), hs, leave_242120 (σ := σ) (f := f) (n := n) (by omega) f0 f1 f2, bd_s]
  rw [if_pos (by decide), if_pos (by decide)]
theorem mk_3 {σ : Sto} {f : Nat → Nat} {u : Nat → Nat} {k n : Nat} (hu : ∀ j, j < 59 → σ 4 j = nI (u j)) (hk : k < 6) (hs : u (35 + k) = 3) (hn : n + 3 ≤ 16) (f0 : f n = 22) (f1 : f (n + 1) = 21) (f2 : f (n + 2) = 20) : fX10_mark (TM σ f n) (nI k) = some (TM σ f (n + 3), ((nI k + nI (u (47 + k))) - (1000 : Int32))) := by
  unfold fX10_mark fX10_mark_j48
  simp only [un]
  rw [n32_35, n32_47, nI_add, nI_add, vin_t (show 35 + k < 59 by omega) (by decide), vin_t (show 47 + k < 59 by omega) (by decide), gd_t, gd_t, nI_clamp (show 35 + k < 2 ^ 31 by omega), nI_clamp (show 47 + k < 2 ^ 31 by omega), TM_o (by decide) (by decide), hu _ (by omega), hu _ (by omega), hs, leave_222120 (σ := σ) (f := f) (n := n) (by omega) f0 f1 f2, bd_s]
  rw [if_neg (by decide), if_pos (by decide), if_neg (by decide), if_pos (by decide)]
theorem sz_4 {σ : Sto} {f : Nat → Nat} {u : Nat → Nat} {k n : Nat} (hu : ∀ j, j < 59 → σ 4 j = nI (u j)) (hk : k < 6) (hs : u (35 + k) = 4) (hn : n + 2 ≤ 16) (f0 : f n = 13) (f1 : f (n + 1) = 10) : fX10_sizeOf (TM σ f n) (nI k) = some (TM σ f (n + 2), (nI (u (41 + k)) - (100 : Int32))) := by
  unfold fX10_sizeOf fX10_sizeOf_j31 fX10_sizeOf_j46
  simp only [un]
  rw [n32_35, n32_41, nI_add, nI_add, vin_t (show 35 + k < 59 by omega) (by decide), vin_t (show 41 + k < 59 by omega) (by decide), gd_t, gd_t, nI_clamp (show 35 + k < 2 ^ 31 by omega), nI_clamp (show 41 + k < 2 ^ 31 by omega), TM_o (by decide) (by decide), hu _ (by omega), hu _ (by omega), hs]
  rw [if_neg (by decide), if_pos trivial, leave_1310 (σ := σ) (f := f) (n := n) (by omega) f0 f1, bd_s, if_pos trivial]
theorem sz_5 {σ : Sto} {f : Nat → Nat} {u : Nat → Nat} {k n : Nat} (hu : ∀ j, j < 59 → σ 4 j = nI (u j)) (hk : k < 6) (hs : u (35 + k) = 5) (hn : n + 3 ≤ 16) (f0 : f n = 14) (f1 : f (n + 1) = 13) (f2 : f (n + 2) = 10) : fX10_sizeOf (TM σ f n) (nI k) = some (TM σ f (n + 3), ((2 : Int32) * (nI (u (41 + k)) - (100 : Int32)))) := by
  unfold fX10_sizeOf fX10_sizeOf_j31 fX10_sizeOf_j46
  simp only [un]
  rw [n32_35, n32_41, nI_add, nI_add, vin_t (show 35 + k < 59 by omega) (by decide), vin_t (show 41 + k < 59 by omega) (by decide), gd_t, gd_t, nI_clamp (show 35 + k < 2 ^ 31 by omega), nI_clamp (show 41 + k < 2 ^ 31 by omega), TM_o (by decide) (by decide), hu _ (by omega), hu _ (by omega), hs]
  rw [if_pos (by decide), if_neg (by decide), leave_141310 (σ := σ) (f := f) (n := n) (by omega) f0 f1 f2, bd_s, if_neg (by decide)]
theorem inv_tr {σx σm : Sto} {f : Nat → Nat} {n : Nat} (h : Inv σx σm) (hn : n ≤ 16) : Inv (TX σx f n) (TM σm f n) := by
  obtain ⟨⟨u, h1⟩, ⟨m, o, P, h2⟩, h3, h4, h5, h6, h7, h8⟩ := h
  have ex : ∀ k, k ≠ 26 → k ≠ 27 → TX σx f n k = σx k := fun k a b => TX_o a b
  have em : ∀ k, k ≠ 0 → k ≠ 11 → TM σm f n k = σm k := fun k a b => TM_o a b
  have e0 : ∀ j, j ≠ 15 → TM σm f n 0 j = σm 0 j := fun j hj => by
    unfold TM
    rw [up_j hj, SO_ne (by decide)]
  refine ⟨⟨u, iNow_fr h1 (fun k _ _ => ex k (by omega) (by omega)) (em 4 (by decide) (by decide))⟩, ⟨m, o, P, iPast_fr h2 (fun k _ _ => ex k (by omega) (by omega)) (ex 7 (by decide) (by decide)) (em 7 (by decide) (by decide)) (e0 8 (by decide))⟩, iImg_fr h3 (fun k _ _ => ex k (by omega) (by omega)) (em 8 (by decide) (by decide)) (em 9 (by decide) (by decide)), iRows_fr h4 (ex 3 (by decide) (by decide)) (ex 4 (by decide) (by decide)) (fun k _ _ => ex k (by omega) (by omega)) (em 1 (by decide) (by decide)) (em 2 (by decide) (by decide)) (em 3 (by decide) (by decide)), iTape_fr h5 (by rw [ex 5 (by decide) (by decide)]) (by rw [ex 5 (by decide) (by decide)]) (ex 6 (by decide) (by decide)) (e0 12 (by decide)) (e0 13 (by decide)) (em 10 (by decide) (by decide)), ⟨n, hn, up_i, up_i, fun j hj => ?_⟩, ?_, iScr_fr h8 (fun k hk => ex k (by omega) (by omega)) (by rw [ex 21 (by decide) (by decide)])⟩
  · unfold TX TM
    have a := SO_at (σ := σx) (a := 27) (o := 0) (u := f) hj
    have b := SO_at (σ := σm) (a := 11) (o := 0) (u := f) hj
    rw [Nat.zero_add] at a b
    rw [up_k (by decide), up_k (by decide), a, b]
  · unfold iSt
    rw [ex 0 (by decide) (by decide), e0 3 (by decide)]
    exact h7
theorem zsub (x : Int32) : (0 : Int32) - x = -x := Int32.zero_sub x
theorem op_ask {σx σm : Sto} (h : Inv σx σm) (a1 : Int32) (a2 : Int32) : ∃ qx qm, fX9_ask σx a1 a2 = some qx ∧ fX10_ask σm a1 a2 = some qm ∧ qx.2 = qm.2 ∧ Inv qx.1 qm.1 := by
  obtain ⟨u, hn⟩ := h.1
  unfold fX9_ask fX10_ask fX10_isTwo fX10_ask_j64
  rcases g_thing hn a1 with ⟨i1, ok, e1, e2⟩ | ⟨_, e1, e2⟩
  · rw [e1, e2, if_neg one_n0, if_neg one_n0]
    rcases g_in (x := a2) (a := 0) (b := 1) (ax := 0) (bx := 1) (A := 0) (B := 1) rfl rfl rfl rfl (by decide) (by decide) with ⟨i2, e1, e2⟩ | ⟨_, e1, e2⟩
    · rw [e1, e2, if_neg one_n0, if_neg one_n0]
      obtain ⟨k, _, hk, rfl⟩ := inR_of i1
      obtain ⟨z, _, hz, rfl⟩ := inR_of i2
      have hT := now_T hn
      have hk6 : k < 6 := by omega
      obtain ⟨b1, b2, b3, b4, b5, b6⟩ := ok.1.2.2.2.2.2.2.2.2.2.2.2 k hk
      have e0 : ∀ f, up σm 0 15 (0 : Int32) = TM σm f 0 := fun f => by unfold TM; rw [SO_0]; rfl
      simp only [un]
      rw [n32_35, n32_41, nI_add, nI_add, vin_t (show 35 + k < 59 by omega) (by decide), vin_t (show 41 + k < 59 by omega) (by decide)]
      simp only [gd_t]
      rw [nI_clamp (show 35 + k < 2 ^ 31 by omega), nI_clamp (show 41 + k < 2 ^ 31 by omega), up_k (show (4 : Nat) ≠ 0 by decide), hn.2.1 (35 + k) (by omega)]
      rcases (show z = 0 ∨ z = 1 by omega) with rfl | rfl
      · rcases (show u (35 + k) = 1 ∨ u (35 + k) = 2 ∨ u (35 + k) = 3 ∨ u (35 + k) = 4 ∨ u (35 + k) = 5 by omega) with hs | hs | hs | hs | hs
        · rw [hs, an_10 hn.1 hk hT.2 hs, bd_s, e0 tq_10]
          rw [if_neg (by decide)]
          rw [if_neg (by decide)]
          rw [if_neg (by decide), leave_1110 (n := 0) (by decide) rfl rfl, bd_s, mk_1 (n := 0 + 2) hn.2.1 hk6 hs (by decide) rfl rfl, bd_s, if_neg (by decide), TM_o (by decide) (by decide), hn.2.1 (41 + k) (by omega)]
          exact mk2 rfl rfl rfl (inv_tr h (by decide))
        · rw [hs, an_20 hn.1 hk hT.2 hs, bd_s, e0 tq_20]
          rw [if_neg (by decide)]
          rw [if_neg (by decide)]
          rw [if_pos (by decide), leave_121110 (n := 0) (by decide) rfl rfl rfl, bd_s, mk_2 (n := 0 + 3) hn.2.1 hk6 hs (by decide) rfl rfl rfl, bd_s, if_pos (by decide), TM_o (by decide) (by decide), hn.2.1 (41 + k) (by omega)]
          exact mk2 rfl rfl (zsub _) (inv_tr h (by decide))
        · rw [hs, an_30 hn.1 hk hT.2 hs, bd_s, e0 tq_30]
          rw [if_neg (by decide)]
          rw [if_neg (by decide)]
          rw [if_neg (by decide), leave_1110 (n := 0) (by decide) rfl rfl, bd_s, mk_3 (n := 0 + 2) hn.2.1 hk6 hs (by decide) rfl rfl rfl, bd_s, if_neg (by decide), TM_o (by decide) (by decide), hn.2.1 (41 + k) (by omega)]
          exact mk2 rfl rfl rfl (inv_tr h (by decide))
        · rw [hs, an_40 hn.1 hk hT.2 hs, bd_s, e0 tq_40]
          rw [if_pos (by decide)]
          rw [if_pos (by decide), sz_4 (n := 0) hn.2.1 hk6 hs (by decide) rfl rfl, bd_s, Nat.zero_add]
          exact mk2 rfl rfl rfl (inv_tr h (by decide))
        · rw [hs, an_50 hn.1 hk hT.2 hs, bd_s, e0 tq_50]
          rw [if_pos (by decide)]
          rw [if_pos (by decide), sz_5 (n := 0) hn.2.1 hk6 hs (by decide) rfl rfl rfl, bd_s, Nat.zero_add]
          exact mk2 rfl rfl rfl (inv_tr h (by decide))
      · rcases (show u (35 + k) = 1 ∨ u (35 + k) = 2 ∨ u (35 + k) = 3 ∨ u (35 + k) = 4 ∨ u (35 + k) = 5 by omega) with hs | hs | hs | hs | hs
        · rw [hs, an_11 hn.1 hk hT.2 hs, bd_s, e0 tq_11]
          rw [if_neg (by decide)]
          rw [if_pos (by decide), mk_1 (n := 0) hn.2.1 hk6 hs (by decide) rfl rfl, bd_s, Nat.zero_add]
          exact mk2 rfl rfl rfl (inv_tr h (by decide))
        · rw [hs, an_21 hn.1 hk hT.2 hs, bd_s, e0 tq_21]
          rw [if_neg (by decide)]
          rw [if_pos (by decide), mk_2 (n := 0) hn.2.1 hk6 hs (by decide) rfl rfl rfl, bd_s, Nat.zero_add]
          exact mk2 rfl rfl rfl (inv_tr h (by decide))
        · rw [hs, an_31 hn.1 hk hT.2 hs, bd_s, e0 tq_31]
          rw [if_neg (by decide)]
          rw [if_pos (by decide), mk_3 (n := 0) hn.2.1 hk6 hs (by decide) rfl rfl rfl, bd_s, Nat.zero_add]
          exact mk2 rfl rfl rfl (inv_tr h (by decide))
        · rw [hs, an_41 hn.1 hk hT.2 hs, bd_s, e0 tq_41]
          rw [if_pos (by decide)]
          rw [if_neg (by decide), leave_2320 (n := 0) (by decide) rfl rfl, bd_s, sz_4 (n := 0 + 2) hn.2.1 hk6 hs (by decide) rfl rfl, bd_s]
          exact mk2 rfl rfl rfl (inv_tr h (by decide))
        · rw [hs, an_51 hn.1 hk hT.2 hs, bd_s, e0 tq_51]
          rw [if_pos (by decide)]
          rw [if_neg (by decide), leave_2320 (n := 0) (by decide) rfl rfl, bd_s, sz_5 (n := 0 + 2) hn.2.1 hk6 hs (by decide) rfl rfl rfl, bd_s]
          exact mk2 rfl rfl rfl (inv_tr h (by decide))
    · rw [e1, e2, if_pos rfl, if_pos rfl]
      exact ⟨_, _, rfl, rfl, rfl, h⟩
  · rw [e1, e2, if_pos rfl, if_pos rfl]
    exact ⟨_, _, rfl, rfl, rfl, h⟩
