/-! what the law's entry gives: the tables' numbers, array classes, the static arrays -/
theorem law_stat {s : State} {b : Nat} {C n : String} {q : List Int32} {A : Nat → Prop} (hl : (Cond.laysStatic C n "[I").before #[Value.ref b] s = true) (hini : (Cond.initialized C).before #[Value.ref b] s = true) (hlen6 : q.length = 6) (harr : (Cond.arrayOf (.static C n "[I") .int).before #[Value.ref b] s = true) (hlen : (Cond.eq (.length (.static C n "[I")) (.int 6)).before #[Value.ref b] s = true)
    (hel : ∀ j : Nat, j < 6 → (Cond.eq (.elem (.static C n "[I") (.int (Int32.ofNat j))) (.int (q.getD j 0))).before #[Value.ref b] s = true) : ∃ t : Nat, ∀ A : Nat → Prop, (∀ a : Nat, a < s.heap.size → ¬ A a) → va_Z C n "[I" (.ref t) A s s.heap ∧ va_T .int t q.length (fun j => .int (q.getD j 0)) A s s.heap := by
  obtain ⟨t, h1, -⟩ := va_Tof (A := fun _ => False) (tm := .static C n "[I") (ty := .int) (N := 6) (f := fun j => .int (q.getD j 0)) (by decide) harr (va_eqt hlen) (fun j hj => va_eqt (hel j hj)) (fun _ _ h => h)
  refine ⟨t, fun A hA => ⟨va_Zref hl hini h1 hA, ?_⟩⟩
  obtain ⟨t2, h3, h4⟩ := va_Tof (A := A) (tm := .static C n "[I") (ty := .int) (N := 6) (f := fun j => .int (q.getD j 0)) (by decide) harr (va_eqt hlen) (fun j hj => va_eqt (hel j hj)) hA
  have e : t2 = t := by
    have := h3.symm.trans h1
    cases this
    rfl
  subst e
  rw [hlen6]
  exact h4

set_option maxRecDepth 100000 in
set_option maxHeartbeats 4000000 in
theorem law_K {s : State} {b : Nat} (hts : ∀ w ∈ lw_tbl, w.before #[Value.ref b] s = true) : ∃ (D : va_G) (cs : Nat → ClassId), ∀ z, KS (D, cs, z) s := by
  obtain ⟨c0, iS0, hK0⟩ := u_known (C := RX0) (T := TX0) (N := 2) (n := 2) hts inX0 (hts (.instantiable RX0 2) (wsL_law_in _ tw_42))
  obtain ⟨c1, iS1, hK1⟩ := u_known (C := RX1) (T := TX1) (N := 8) (n := 8) hts inX1 (hts (.instantiable RX1 8) (wsL_law_in _ tw_34))
  obtain ⟨c2, iS2, hK2⟩ := u_known (C := RX2) (T := TX2) (N := 2) (n := 2) hts inX2 (hts (.instantiable RX2 2) (wsL_law_in _ tw_94))
  obtain ⟨c3, iS3, hK3⟩ := u_known (C := RX3) (T := TX3) (N := 3) (n := 3) hts inX3 (hts (.instantiable RX3 3) (wsL_law_in _ tw_25))
  obtain ⟨c4, iS4, hK4⟩ := u_known (C := RX4) (T := TX4) (N := 3) (n := 3) hts inX4 (hts (.instantiable RX4 3) (wsL_law_in _ tw_13))
  obtain ⟨c5, iS5, hK5⟩ := u_known (C := RX5) (T := TX5) (N := 4) (n := 4) hts inX5 (hts (.instantiable RX5 4) (wsL_law_in _ tw_30))
  obtain ⟨c6, iS6, hK6⟩ := u_known (C := RX6) (T := TX6) (N := 6) (n := 6) hts inX6 (hts (.instantiable RX6 6) (wsL_law_in _ tw_17))
  obtain ⟨c7, iS7, hK7⟩ := u_known (C := RX7) (T := TX7) (N := 6) (n := 6) hts inX7 (hts (.instantiable RX7 6) (wsL_law_in _ tw_38))
  obtain ⟨c8, iS8, hK8⟩ := u_known (C := RX8) (T := TX8) (N := 12) (n := 12) hts inX8 (hts (.instantiable RX8 12) (wsL_law_in _ tw_21))
  obtain ⟨c9, iS9, hK9⟩ := u_known (C := RX9) (T := TX9) (N := 10) (n := 10) hts inX9 (hts (.instantiable RX9 10) (wsL_law_in _ tw_1))
  obtain ⟨c10, iS10, hK10⟩ := u_known (C := RX10) (T := TX10) (N := 24) (n := 24) hts inX10 (hts (.instantiable RX10 24) (wsL_law_in _ tw_4))
  obtain ⟨a0, k0, p0, q1, q2, q3⟩ := Cond.arrayClass_spec (hts (.arrayClass .int) (wsL_law_in _ tw_51))
  obtain ⟨a1, k1, p1, r1, r2, r3⟩ := Cond.arrayClass_spec (hts (.arrayClass .boolean) (wsL_law_in _ tw_115))
  obtain ⟨p2, a2, k2, s1, s2, s3, s4, s5⟩ := Cond.arrayOver_spec (hts (.arrayOver (.object "LavaLodger$Village")) (by decide +kernel))
  obtain ⟨p3, a3, k3, t1, t2, t3, t4, t5⟩ := arrayOverA_spec (hts (.arrayOver (.array .int)) (by decide +kernel))
  refine ⟨(fun k => if k = 0 then c0 else if k = 1 then c1 else if k = 2 then c2 else if k = 3 then c3 else if k = 4 then c4 else if k = 5 then c5 else if k = 6 then c6 else if k = 7 then c7 else if k = 8 then c8 else if k = 9 then c9 else c10, fun k => if k = 0 then iS0 else if k = 1 then iS1 else if k = 2 then iS2 else if k = 3 then iS3 else if k = 4 then iS4 else if k = 5 then iS5 else if k = 6 then iS6 else if k = 7 then iS7 else if k = 8 then iS8 else if k = 9 then iS9 else iS10), fun k => if k = 0 then a0 else if k = 1 then a1 else if k = 2 then a2 else a3, fun z => ⟨?_, ?_⟩⟩
  · intro k q hq
    match k, hq with
    | 0, hq => cases hq; exact hK0
    | 1, hq => cases hq; exact hK1
    | 2, hq => cases hq; exact hK2
    | 3, hq => cases hq; exact hK3
    | 4, hq => cases hq; exact hK4
    | 5, hq => cases hq; exact hK5
    | 6, hq => cases hq; exact hK6
    | 7, hq => cases hq; exact hK7
    | 8, hq => cases hq; exact hK8
    | 9, hq => cases hq; exact hK9
    | 10, hq => cases hq; exact hK10
    | k + 11, hq => simp [vwCl] at hq
  · intro k q hq
    match k, hq with
    | 0, hq => cases hq; exact ⟨fun N z => ⟨(fun q hq => by cases hq), k0, q2, p0, q3⟩, q1⟩
    | 1, hq => cases hq; exact ⟨fun N z => ⟨(fun q hq => by cases hq), k1, r2, p1, r3⟩, r1⟩
    | 2, hq => cases hq; exact ⟨fun N z => ⟨(fun q hq => by cases hq), k2, s3, p2, s4⟩, k2, p2, s3, s4, s1, s5⟩
    | 3, hq => cases hq; exact ⟨fun N z => ⟨(fun q hq => by cases hq), k3, t3, p3, t4⟩, t5⟩
    | k + 4, hq => simp [tyS] at hq
theorem law_NC {s : State} {b : Nat} (hts : ∀ w ∈ lw_tbl, w.before #[Value.ref b] s = true) : NC s := by
  refine ⟨fun i q hq => ?_, va_AO.of (hts (.arrayOver (.object "LavaLodger$Village")) (by decide +kernel)), hts (.arrayOver (.array .int)) (by decide +kernel)⟩
  have hm : Cond.methodLinkNest q.1 q.2.1 q.2.2 "LavaLodger" ∈ lw_tbl := by
    match i, hq with
    | 0, hq => cases hq; decide +kernel
    | 1, hq => cases hq; decide +kernel
    | 2, hq => cases hq; decide +kernel
    | 3, hq => cases hq; decide +kernel
    | 4, hq => cases hq; decide +kernel
    | 5, hq => cases hq; decide +kernel
    | 6, hq => cases hq; decide +kernel
    | 7, hq => cases hq; decide +kernel
    | 8, hq => cases hq; decide +kernel
    | 9, hq => cases hq; decide +kernel
    | k + 10, hq => simp [nlC] at hq
  exact va_Nw.of rfl (hts _ hm)
theorem law_NS {s : State} {b : Nat} (hts : ∀ w ∈ lw_tbl, w.before #[Value.ref b] s = true) : NS s := va_Nw.of rfl (hts (.fieldLinkNest RX0 38 "LavaLodger" "KIND_ABOVE" "[I" "LavaLodger") (by decide +kernel))
set_option maxRecDepth 100000 in
theorem law_S {s : State} {b : Nat} (hts : ∀ w ∈ lw_tbl, w.before #[Value.ref b] s = true) (hgv : (Jvm.Cond.and given_1 narrow_1).before #[Value.ref b] s = true) : ∃ st : Nat → Nat, ∀ A : Nat → Prop, (∀ a : Nat, a < s.heap.size → ¬ A a) → ∀ (i : Nat) (q : String × String × List Int32), tabX[i]? = some q → va_Z q.1 q.2.1 "[I" (.ref (st i)) A s s.heap ∧ va_T .int (st i) q.2.2.length (fun j => .int (q.2.2.getD j 0)) A s s.heap := by
  have hs := flat_of_before _ hgv
  obtain ⟨t0, h0⟩ := law_stat (b := b) (A := fun _ => False) (C := "LavaLodger") (n := "KIND_ABOVE") (q := [-1, 0, 1, 1, 0, 4]) (hts _ (by decide +kernel)) (hts _ (by decide +kernel)) rfl (hs _ (by decide +kernel)) (hs _ (by decide +kernel)) (fun j hj => by
    rcases (show j = 0 ∨ j = 1 ∨ j = 2 ∨ j = 3 ∨ j = 4 ∨ j = 5 by omega) with rfl | rfl | rfl | rfl | rfl | rfl
    · exact hs (.eq (.elem (.static "LavaLodger" "KIND_ABOVE" "[I") (.int 0)) (.int (-1))) (by decide +kernel)
    · exact hs (.eq (.elem (.static "LavaLodger" "KIND_ABOVE" "[I") (.int 1)) (.int (0))) (by decide +kernel)
    · exact hs (.eq (.elem (.static "LavaLodger" "KIND_ABOVE" "[I") (.int 2)) (.int (1))) (by decide +kernel)
    · exact hs (.eq (.elem (.static "LavaLodger" "KIND_ABOVE" "[I") (.int 3)) (.int (1))) (by decide +kernel)
    · exact hs (.eq (.elem (.static "LavaLodger" "KIND_ABOVE" "[I") (.int 4)) (.int (0))) (by decide +kernel)
    · exact hs (.eq (.elem (.static "LavaLodger" "KIND_ABOVE" "[I") (.int 5)) (.int (4))) (by decide +kernel))
  obtain ⟨t1, h1⟩ := law_stat (b := b) (A := fun _ => False) (C := "LavaLodger$Asker") (n := "SIZE_BODIES") (q := [10, 11, 12, 0, 13, 14]) (hts _ (by decide +kernel)) (hts _ (by decide +kernel)) rfl (hs _ (by decide +kernel)) (hs _ (by decide +kernel)) (fun j hj => by
    rcases (show j = 0 ∨ j = 1 ∨ j = 2 ∨ j = 3 ∨ j = 4 ∨ j = 5 by omega) with rfl | rfl | rfl | rfl | rfl | rfl
    · exact hs (.eq (.elem (.static "LavaLodger$Asker" "SIZE_BODIES" "[I") (.int 0)) (.int (10))) (by decide +kernel)
    · exact hs (.eq (.elem (.static "LavaLodger$Asker" "SIZE_BODIES" "[I") (.int 1)) (.int (11))) (by decide +kernel)
    · exact hs (.eq (.elem (.static "LavaLodger$Asker" "SIZE_BODIES" "[I") (.int 2)) (.int (12))) (by decide +kernel)
    · exact hs (.eq (.elem (.static "LavaLodger$Asker" "SIZE_BODIES" "[I") (.int 3)) (.int (0))) (by decide +kernel)
    · exact hs (.eq (.elem (.static "LavaLodger$Asker" "SIZE_BODIES" "[I") (.int 4)) (.int (13))) (by decide +kernel)
    · exact hs (.eq (.elem (.static "LavaLodger$Asker" "SIZE_BODIES" "[I") (.int 5)) (.int (14))) (by decide +kernel))
  obtain ⟨t2, h2⟩ := law_stat (b := b) (A := fun _ => False) (C := "LavaLodger$Asker") (n := "MARK_BODIES") (q := [20, 21, 24, 22, 23, 0]) (hts _ (by decide +kernel)) (hts _ (by decide +kernel)) rfl (hs _ (by decide +kernel)) (hs _ (by decide +kernel)) (fun j hj => by
    rcases (show j = 0 ∨ j = 1 ∨ j = 2 ∨ j = 3 ∨ j = 4 ∨ j = 5 by omega) with rfl | rfl | rfl | rfl | rfl | rfl
    · exact hs (.eq (.elem (.static "LavaLodger$Asker" "MARK_BODIES" "[I") (.int 0)) (.int (20))) (by decide +kernel)
    · exact hs (.eq (.elem (.static "LavaLodger$Asker" "MARK_BODIES" "[I") (.int 1)) (.int (21))) (by decide +kernel)
    · exact hs (.eq (.elem (.static "LavaLodger$Asker" "MARK_BODIES" "[I") (.int 2)) (.int (24))) (by decide +kernel)
    · exact hs (.eq (.elem (.static "LavaLodger$Asker" "MARK_BODIES" "[I") (.int 3)) (.int (22))) (by decide +kernel)
    · exact hs (.eq (.elem (.static "LavaLodger$Asker" "MARK_BODIES" "[I") (.int 4)) (.int (23))) (by decide +kernel)
    · exact hs (.eq (.elem (.static "LavaLodger$Asker" "MARK_BODIES" "[I") (.int 5)) (.int (0))) (by decide +kernel))
  refine ⟨fun i => if i = 0 then t0 else if i = 1 then t1 else t2, fun A hA i q hq => ?_⟩
  match i, hq with
  | 0, hq => cases hq; exact h0 A hA
  | 1, hq => cases hq; exact h1 A hA
  | 2, hq => cases hq; exact h2 A hA
  | k + 3, hq => simp [tabX] at hq
