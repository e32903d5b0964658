set_option maxRecDepth 100000 in
set_option maxHeartbeats 4000000 in
theorem ctX7_dresserTurn {l : Launch} {g : Gw} {σ : Sto} {rc : Sto → Int32 → Int32 → Option (Sto × Int32)} (rh : Nat) (hrc : ∀ (σ : Sto) (x1 : Int32) (x2 : Int32) (Rz : (Sto × Int32)), rc σ x1 x2 = some Rz → MtG l yX7_outcome cX7_outcome 3 (some .int) rh wkX g [.ref (adG g 21), .int x1, .int x2] σ (QiS wkX g Rz.1 Rz.2)) (x1 : Int32) (x2 : Int32) {Rz : (Sto × Int32)} (h : fX7_dresserTurn rc σ x1 x2 = some Rz) : MtG l yX7_dresserTurn cX7_dresserTurn 5 (some .int) (rh + 2) wkX g [.ref (adG g 21), .int x1, .int x2] σ (QiS wkX g Rz.1 Rz.2) := by
  refine mt_of (by decide) (Nat.le_of_ble_eq_true rfl) (fun p e s m below meth c ls H locs C hP hS hl => ?_)
  have C : Cx wkX g p s m _ meth c cX7_dresserTurn 5 RX7 (some .int) := C
  have hl : lv_has ls 5 [(0, .ref (adG g 21)), (1, .int x1), (2, .int x2)] := hl
  obtain ⟨hx, hb, hml, hown, hts, hr, hlk, hK, hZ⟩ := id C
  unfold fX7_dresserTurn at h
  refine lv_aload_n hx hb dX7_dresserTurn_0 rfl (lv_at hl 0 rfl) ?_
  refine lv_iload_n hx hb dX7_dresserTurn_1 rfl (lv_at hl 1 rfl) ?_
  refine lv_iconst (v := 1) hx hb dX7_dresserTurn_2 (by decide) ?_
  refine lv_iadd hx hb dX7_dresserTurn_3 ?_
  refine lv_iload_n hx hb dX7_dresserTurn_4 rfl (lv_at hl 2 rfl) ?_
  obtain ⟨q_1, hq_1, h⟩ := bd_inv h
  refine end_i (run_v (As := [.int (x1 + (1 : Int32)), .int x2]) (rest := []) C ca_X7_outcome (hrc σ (x1 + (1 : Int32)) x2 _ hq_1) cf_7 sx_21 kx_21 tw_904 ⟨by show _ ≤ (rh + 2); omega, by show _ ≤ 40 * (rh + 2); omega⟩ rfl hl.1 (Nat.le_of_ble_eq_true rfl) ⟨Nat.le_refl _, Nat.le_refl _⟩ hP hS dX7_dresserTurn_5) hS (fun H locs hP hS => ?_)
  refine lv_istore_n (lv' := [(3, .int q_1.2), (0, .ref (adG g 21)), (1, .int x1), (2, .int x2)]) hx hb dX7_dresserTurn_8 rfl hl (by decide) rfl (fun ls hl => ?_)
  refine lv_aload_n hx hb dX7_dresserTurn_9 rfl (lv_at hl 1 rfl) ?_
  refine lv_dup hx hb dX7_dresserTurn_10 rfl ?_
  refine r_geti C cf_7 hP sx_21 kx_21 4 (by decide) rfl tw_132 dX7_dresserTurn_11 ?_
  refine lv_iconst (v := 1) hx hb dX7_dresserTurn_14 (by decide) ?_
  refine lv_iadd hx hb dX7_dresserTurn_15 ?_
  refine r_puti C cf_7 hP hS sx_21 kx_21 4 (by decide) rfl rfl rfl tw_132 dX7_dresserTurn_16 (fun H locs σ_2 eσ_2 hP hS => ?_)
  replace h := un_at eσ_2 h
  refine lv_aload_n hx hb dX7_dresserTurn_19 rfl (lv_at hl 1 rfl) ?_
  refine lv_iload_n hx hb dX7_dresserTurn_20 rfl (lv_at hl 2 rfl) ?_
  refine lv_iconst (v := 1) hx hb dX7_dresserTurn_21 (by decide) ?_
  refine lv_iadd hx hb dX7_dresserTurn_22 ?_
  refine lv_iload_n hx hb dX7_dresserTurn_23 rfl (lv_at hl 3 rfl) ?_
  obtain ⟨q_3, hq_3, h⟩ := bd_inv h
  refine end_i (run_v (As := [.int (x1 + (1 : Int32)), .int x2]) (rest := []) C ca_X7_outcome (hrc σ_2 (x1 + (1 : Int32)) x2 _ hq_3) cf_7 sx_21 kx_21 tw_904 ⟨by show _ ≤ (rh + 2); omega, by show _ ≤ 40 * (rh + 2); omega⟩ rfl hl.1 (Nat.le_of_ble_eq_true rfl) ⟨Nat.le_refl _, Nat.le_refl _⟩ hP hS dX7_dresserTurn_24) hS (fun H locs hP hS => ?_)
  refine lv_istore (lv' := [(4, .int q_3.2), (3, .int q_1.2), (0, .ref (adG g 21)), (1, .int x1), (2, .int x2)]) hx hb dX7_dresserTurn_27 hl (by decide) rfl (fun ls hl => ?_)
  refine lv_aload_n hx hb dX7_dresserTurn_29 rfl (lv_at hl 2 rfl) ?_
  refine lv_dup hx hb dX7_dresserTurn_30 rfl ?_
  refine r_geti C cf_7 hP sx_21 kx_21 4 (by decide) rfl tw_132 dX7_dresserTurn_31 ?_
  refine lv_iconst (v := 1) hx hb dX7_dresserTurn_34 (by decide) ?_
  refine lv_isub hx hb dX7_dresserTurn_35 ?_
  refine r_puti C cf_7 hP hS sx_21 kx_21 4 (by decide) rfl rfl rfl tw_132 dX7_dresserTurn_36 (fun H locs σ_4 eσ_4 hP hS => ?_)
  replace h := un_at eσ_4 h
  refine lv_iload_n hx hb dX7_dresserTurn_39 rfl (lv_at hl 1 rfl) ?_
  refine lv_iload hx hb dX7_dresserTurn_40 (lv_at hl 0 rfl) ?_
  refine r_max C hl.1 tw_920 tw_104 tw_105 tw_106 ⟨by show _ ≤ (rh + 2); omega, Nat.le_trans (m := 40) (Nat.le_of_ble_eq_true rfl) (by show 40 ≤ 40 * (rh + 2); omega)⟩ (Nat.le_refl _) (Nat.le_refl _) dX7_dresserTurn_42 ?_
  exact r_reti C hP hS (rt_ow1 h) (rt_ow2 h) dX7_dresserTurn_45

set_option maxRecDepth 100000 in
set_option maxHeartbeats 4000000 in
theorem ctX7_outcome {l : Launch} {g : Gw} {σ : Sto} {rc : Sto → Int32 → Int32 → Option (Sto × Int32)} (rh : Nat) (hrc : ∀ (σ : Sto) (x1 : Int32) (x2 : Int32) (Rz : (Sto × Int32)), rc σ x1 x2 = some Rz → MtG l yX7_outcome cX7_outcome 3 (some .int) rh wkX g [.ref (adG g 21), .int x1, .int x2] σ (QiS wkX g Rz.1 Rz.2)) (x1 : Int32) (x2 : Int32) {Rz : (Sto × Int32)} (h : fX7_outcome rc σ x1 x2 = some Rz) : MtG l yX7_outcome cX7_outcome 3 (some .int) (rh + 3) wkX g [.ref (adG g 21), .int x1, .int x2] σ (QiS wkX g Rz.1 Rz.2) := by
  refine mt_of (by decide) (Nat.le_of_ble_eq_true rfl) (fun p e s m below meth c ls H locs C hP hS hl => ?_)
  have C : Cx wkX g p s m _ meth c cX7_outcome 3 RX7 (some .int) := C
  have hl : lv_has ls 3 [(0, .ref (adG g 21)), (1, .int x1), (2, .int x2)] := hl
  obtain ⟨hx, hb, hml, hown, hts, hr, hlk, hK, hZ⟩ := id C
  unfold fX7_outcome at h
  refine lv_iload_n hx hb dX7_outcome_0 rfl (lv_at hl 1 rfl) ?_
  refine lv_iload_n hx hb dX7_outcome_1 rfl (lv_at hl 2 rfl) ?_
  refine lv_icmp_lt (tgt := 10) hx hb dX7_outcome_2 (by decide) (fun c_ => ?_) (fun c_ => ?_)
  · replace h := if_t c_ h
    refine lv_iload_n hx hb dX7_outcome_10 rfl (lv_at hl 1 rfl) ?_
    refine lv_iconst (v := 2) hx hb dX7_outcome_11 (by decide) ?_
    refine lv_irem hx hb dX7_outcome_12 (by decide) ?_
    refine lv_if_ne (tgt := 25) hx hb dX7_outcome_13 (by decide) (fun c_ => ?_) (fun c_ => ?_)
    · replace h := if_f c_ h
      refine lv_aload_n hx hb dX7_outcome_25 rfl (lv_at hl 0 rfl) ?_
      refine lv_iload_n hx hb dX7_outcome_26 rfl (lv_at hl 1 rfl) ?_
      refine lv_iload_n hx hb dX7_outcome_27 rfl (lv_at hl 2 rfl) ?_
      obtain ⟨q_1, hq_1, h⟩ := bd_inv h
      refine end_i (run_v (As := [.int x1, .int x2]) (rest := []) C ca_X7_dresserTurn (ctX7_dresserTurn rh hrc x1 x2 hq_1) cf_7 sx_21 kx_21 tw_915 ⟨by show _ ≤ (rh + 3); omega, by show _ ≤ 40 * (rh + 3); omega⟩ rfl hl.1 (Nat.le_of_ble_eq_true rfl) ⟨Nat.le_refl _, Nat.le_refl _⟩ hP hS dX7_outcome_28) hS (fun H locs hP hS => ?_)
      exact r_reti C hP hS (rt_ow1 h) (rt_ow2 h) dX7_outcome_31
    · replace h := if_t c_ h
      refine lv_aload_n hx hb dX7_outcome_16 rfl (lv_at hl 0 rfl) ?_
      refine lv_iload_n hx hb dX7_outcome_17 rfl (lv_at hl 1 rfl) ?_
      refine lv_iload_n hx hb dX7_outcome_18 rfl (lv_at hl 2 rfl) ?_
      obtain ⟨q_2, hq_2, h⟩ := bd_inv h
      refine end_i (run_v (As := [.int x1, .int x2]) (rest := []) C ca_X7_auntTurn (ctX7_auntTurn rh hrc x1 x2 hq_2) cf_7 sx_21 kx_21 tw_912 ⟨by show _ ≤ (rh + 3); omega, by show _ ≤ 40 * (rh + 3); omega⟩ rfl hl.1 (Nat.le_of_ble_eq_true rfl) ⟨Nat.le_refl _, Nat.le_refl _⟩ hP hS dX7_outcome_19) hS (fun H locs hP hS => ?_)
      refine lv_goto (tgt := 31) hx hb dX7_outcome_22 (by decide) ?_
      exact r_reti C hP hS (rt_ow1 h) (rt_ow2 h) dX7_outcome_31
  · replace h := if_f c_ h
    refine lv_aload_n hx hb dX7_outcome_5 rfl (lv_at hl 0 rfl) ?_
    obtain ⟨q_3, hq_3, h⟩ := bd_inv h
    refine end_i (run_v (As := []) (rest := []) C ca_X7_stonesNow (ctX7_stonesNow hq_3) cf_7 sx_21 kx_21 tw_908 ⟨by show _ ≤ (rh + 3); omega, by show _ ≤ 40 * (rh + 3); omega⟩ rfl hl.1 (Nat.le_of_ble_eq_true rfl) ⟨Nat.le_refl _, Nat.le_refl _⟩ hP hS dX7_outcome_6) hS (fun H locs hP hS => ?_)
    exact r_reti C hP hS (rt_ow1 h) (rt_ow2 h) dX7_outcome_9

theorem ctX7_outcomeD {l : Launch} {g : Gw} : ∀ (n : Nat) (σ : Sto) (x1 : Int32) (x2 : Int32) (Rz : (Sto × Int32)), fX7_outcomeD n σ x1 x2 = some Rz → MtG l yX7_outcome cX7_outcome 3 (some .int) (3 * n) wkX g [.ref (adG g 21), .int x1, .int x2] σ (QiS wkX g Rz.1 Rz.2)
  | 0, _, _, _, _, h => by cases h
  | n + 1, σ, x1, x2, _, h => by
    rw [fX7_outcomeD] at h
    have q := ctX7_outcome (l := l) (g := g) (3 * n) (ctX7_outcomeD n) x1 x2 h
    rw [show 3 * (n + 1) = 3 * n + 3 by omega]
    exact q
theorem ctX7_outcomeR {l : Launch} {g : Gw} {σ : Sto} (x1 : Int32) (x2 : Int32) {Rz : (Sto × Int32)} (h : fX7_outcomeR σ x1 x2 = some Rz) : MtG l yX7_outcome cX7_outcome 3 (some .int) 18 wkX g [.ref (adG g 21), .int x1, .int x2] σ (QiS wkX g Rz.1 Rz.2) := ctX7_outcomeD 6 σ x1 x2 Rz h

set_option maxRecDepth 100000 in
set_option maxHeartbeats 4000000 in
theorem wfX7_play_L11 {l : Launch} {g : Gw} {p : Program} {e : Env} {s : State} {m : MethodId} {args : Array Value} {below : List Frame} {meth : Method} {c : Code} (C : Cx wkX g p s m args meth c cX7_play 5 RX7 (some .int)) (v1 : Nat) (hv1 : isV v1) {Rz : (Sto × Int32)} : ∀ (n : Nat) (σ : Sto) (x2 : Int32) (x3 : Int32) (x4 : Int32) (H : Heap) (locs : List Loc) (ls : Array Slot), fX7_play_L11 v1 n σ x2 x3 x4 = some Rz → wS wkX g σ H → va_S (AS wkX g) s.heap H locs → lv_has ls 5 [(0, .ref (adG g 21)), (1, .ref (adG g v1)), (2, .int x2), (3, .int x3), (4, .int x4)] → W p l e (rmS 19) s m args below meth c H locs 0 0 (MQ below (QiS wkX g Rz.1 Rz.2) args s 0 0 (AS wkX g)) (F0 m 11 ls []) := by
  intro n
  induction n with
  | zero =>
    intro σ x2 x3 x4 H locs ls h
    cases h
  | succ n ih =>
    intro σ x2 x3 x4 H locs ls h hP hS hl
    obtain ⟨hx, hb, hml, hown, hts, hr, hlk, hK, hZ⟩ := id C
    rw [fX7_play_L11] at h
    refine lv_iload hx hb dX7_play_11 (lv_at hl 4 rfl) ?_
    refine lv_iconst (v := 3) hx hb dX7_play_13 (by decide) ?_
    refine lv_icmp_ge (tgt := 71) hx hb dX7_play_14 (by decide) (fun c_ => ?_) (fun c_ => ?_)
    · replace h := if_t c_ h
      refine lv_aload_n hx hb dX7_play_71 rfl (lv_at hl 0 rfl) ?_
      refine lv_iconst (v := 0) hx hb dX7_play_72 (by decide) ?_
      refine lv_iload_n hx hb dX7_play_73 rfl (lv_at hl 2 rfl) ?_
      refine lv_iconst (v := 4) hx hb dX7_play_74 (by decide) ?_
      refine r_min C hl.1 tw_891 tw_460 tw_105 tw_461 ⟨Nat.le_of_ble_eq_true rfl, Nat.le_of_ble_eq_true rfl⟩ (Nat.le_refl _) (Nat.le_refl _) dX7_play_75 ?_
      obtain ⟨q_1, hq_1, h⟩ := bd_inv h
      refine end_i (run_v (As := [.int (0 : Int32), .int (if (4 : Int32) < x2 then (4 : Int32) else x2)]) (rest := []) C ca_X7_outcome (ctX7_outcomeR (0 : Int32) (if (4 : Int32) < x2 then (4 : Int32) else x2) hq_1) cf_7 sx_21 kx_21 tw_904 ⟨Nat.le_of_ble_eq_true rfl, Nat.le_of_ble_eq_true rfl⟩ rfl hl.1 (Nat.le_of_ble_eq_true rfl) ⟨Nat.le_refl _, Nat.le_refl _⟩ hP hS dX7_play_78) hS (fun H locs hP hS => ?_)
      exact r_reti C hP hS (rt_ow1 h) (rt_ow2 h) dX7_play_81
    · replace h := if_f c_ h
      refine lv_aload_n hx hb dX7_play_17 rfl (lv_at hl 0 rfl) ?_
      refine r_getr C cf_7 hP sx_21 kx_21 0 (by decide) rfl tw_127 dX7_play_18 ?_
      refine lv_aload_n hx hb dX7_play_21 rfl (lv_at hl 1 rfl) ?_
      obtain ⟨q_2, eq_2⟩ : ∃ z, z = fX8_become σ 268 v1 := ⟨_, rfl⟩
      replace h := un_at eq_2 h
      refine end_v (run_v (As := [.ref (adG g v1)]) (rest := []) C ca_X8_become (ctX8_become 268 iv_268 v1 hv1 eq_2.symm) cf_8 (sv_0 iv_268) (kv_0 iv_268) tw_892 ⟨Nat.le_of_ble_eq_true rfl, Nat.le_of_ble_eq_true rfl⟩ rfl hl.1 (Nat.le_of_ble_eq_true rfl) ⟨Nat.le_refl _, Nat.le_refl _⟩ hP hS dX7_play_22) hS (fun H locs hP hS => ?_)
      refine lv_aload_n hx hb dX7_play_25 rfl (lv_at hl 0 rfl) ?_
      refine r_getr C cf_7 hP sx_21 kx_21 0 (by decide) rfl tw_127 dX7_play_26 ?_
      refine lv_bipush (v := 20) hx hb dX7_play_29 (by decide) ?_
      refine lv_aload_n hx hb dX7_play_31 rfl (lv_at hl 1 rfl) ?_
      refine r_geti C cf_8 hP (sv_0 hv1) (kv_0 hv1) 2 (by decide) rfl tw_890 dX7_play_32 ?_
      refine lv_iconst (v := 3) hx hb dX7_play_35 (by decide) ?_
      refine lv_iload hx hb dX7_play_36 (lv_at hl 4 rfl) ?_
      refine lv_imul hx hb dX7_play_38 ?_
      refine lv_iadd hx hb dX7_play_39 ?_
      refine r_min C hl.1 tw_891 tw_460 tw_105 tw_461 ⟨Nat.le_of_ble_eq_true rfl, Nat.le_of_ble_eq_true rfl⟩ (Nat.le_refl _) (Nat.le_refl _) dX7_play_40 ?_
      refine r_puti C cf_8 hP hS (sv_0 iv_268) (kv_0 iv_268) 2 (by decide) rfl rfl rfl tw_890 dX7_play_43 (fun H locs σ_3 eσ_3 hP hS => ?_)
      replace h := un_at eσ_3 h
      refine lv_aload_n hx hb dX7_play_46 rfl (lv_at hl 0 rfl) ?_
      refine r_getr C cf_7 hP sx_21 kx_21 1 (by decide) rfl tw_129 dX7_play_47 ?_
      refine lv_aload_n hx hb dX7_play_50 rfl (lv_at hl 0 rfl) ?_
      refine r_getr C cf_7 hP sx_21 kx_21 0 (by decide) rfl tw_127 dX7_play_51 ?_
      refine lv_iload_n hx hb dX7_play_54 rfl (lv_at hl 3 rfl) ?_
      obtain ⟨q_4, hq_4, h⟩ := bd_inv h
      refine end_v (run_v (As := [.ref (adG g 268), .int x3]) (rest := []) C ca_X2_tell (ctX2_tell 22 if_22 268 iv_268 x3 hq_4) cf_2 (sf_0 if_22) (kf_0 if_22) tw_893 ⟨Nat.le_of_ble_eq_true rfl, Nat.le_of_ble_eq_true rfl⟩ rfl hl.1 (Nat.le_of_ble_eq_true rfl) ⟨Nat.le_refl _, Nat.le_refl _⟩ hP hS dX7_play_55) hS (fun H locs hP hS => ?_)
      refine lv_aload_n hx hb dX7_play_58 rfl (lv_at hl 0 rfl) ?_
      refine lv_iload hx hb dX7_play_59 (lv_at hl 4 rfl) ?_
      refine lv_iload_n hx hb dX7_play_61 rfl (lv_at hl 3 rfl) ?_
      obtain ⟨q_5, hq_5, h⟩ := bd_inv h
      refine end_v (run_v (As := [.int x4, .int x3]) (rest := []) C ca_X7_followAll (ctX7_followAll x4 x3 hq_5) cf_7 sx_21 kx_21 tw_894 ⟨Nat.le_of_ble_eq_true rfl, Nat.le_of_ble_eq_true rfl⟩ rfl hl.1 (Nat.le_of_ble_eq_true rfl) ⟨Nat.le_refl _, Nat.le_refl _⟩ hP hS dX7_play_62) hS (fun H locs hP hS => ?_)
      obtain ⟨x_6, ex_6⟩ : ∃ y : Int32, y = x4 + (1 : Int32) := ⟨_, rfl⟩
      replace h := un_at ex_6 h
      refine lv_iinc (v := x_6) (lv' := [(4, .int x_6), (0, .ref (adG g 21)), (1, .ref (adG g v1)), (2, .int x2), (3, .int x3)]) hx hb dX7_play_65 hl (k := 4) rfl (by rw [ex_6]; rfl) (by decide) rfl (fun ls hl => ?_)
      refine lv_goto (tgt := 11) hx hb dX7_play_68 (by decide) ?_
      exact ih q_5 x2 x3 x_6 H locs ls h hP hS (lv_sub hl [1, 2, 3, 4, 0] rfl)

set_option maxRecDepth 100000 in
set_option maxHeartbeats 4000000 in
theorem ctX7_play {l : Launch} {g : Gw} {σ : Sto} (v1 : Nat) (hv1 : isV v1) (x2 : Int32) (x3 : Int32) {Rz : (Sto × Int32)} (h : fX7_play σ v1 x2 x3 = some Rz) : MtG l yX7_play cX7_play 5 (some .int) 19 wkX g [.ref (adG g 21), .ref (adG g v1), .int x2, .int x3] σ (QiS wkX g Rz.1 Rz.2) := by
  refine mt_of (by decide) (Nat.le_of_ble_eq_true rfl) (fun p e s m below meth c ls H locs C hP hS hl => ?_)
  have C : Cx wkX g p s m _ meth c cX7_play 5 RX7 (some .int) := C
  have hl : lv_has ls 5 [(0, .ref (adG g 21)), (1, .ref (adG g v1)), (2, .int x2), (3, .int x3)] := hl
  obtain ⟨hx, hb, hml, hown, hts, hr, hlk, hK, hZ⟩ := id C
  unfold fX7_play at h
  refine lv_aload_n hx hb dX7_play_0 rfl (lv_at hl 0 rfl) ?_
  refine lv_aload_n hx hb dX7_play_1 rfl (lv_at hl 1 rfl) ?_
  refine r_geti C cf_8 hP (sv_0 hv1) (kv_0 hv1) 1 (by decide) rfl tw_889 dX7_play_2 ?_
  refine r_puti C cf_7 hP hS sx_21 kx_21 5 (by decide) rfl rfl rfl tw_133 dX7_play_5 (fun H locs σ_1 eσ_1 hP hS => ?_)
  replace h := un_at eσ_1 h
  refine lv_iconst (v := 0) hx hb dX7_play_8 (by decide) ?_
  refine lv_istore (lv' := [(4, .int (0 : Int32)), (0, .ref (adG g 21)), (1, .ref (adG g v1)), (2, .int x2), (3, .int x3)]) hx hb dX7_play_9 hl (by decide) rfl (fun ls hl => ?_)
  exact wfX7_play_L11 C v1 hv1 fu σ_1 x2 x3 (0 : Int32) H locs ls h hP hS (lv_sub hl [1, 2, 3, 4, 0] rfl)

set_option maxRecDepth 100000 in
set_option maxHeartbeats 4000000 in
theorem wfX8_allLava_L4 {l : Launch} {g : Gw} {p : Program} {e : Env} {s : State} {m : MethodId} {args : Array Value} {below : List Frame} {meth : Method} {c : Code} {σ : Sto} (C : Cx wkX g p s m args meth c cX8_allLava 3 RX8 (some .int)) (v0 : Nat) (hv0 : isV v0) {Rz : Int32} : ∀ (n : Nat) (x1 : Int32) (x2 : Int32) (H : Heap) (locs : List Loc) (ls : Array Slot), fX8_allLava_L4 v0 σ n x1 x2 = some Rz → wS wkX g σ H → va_S (AS wkX g) s.heap H locs → lv_has ls 3 [(0, .ref (adG g v0)), (1, .int x1), (2, .int x2)] → W p l e (rmS 0) s m args below meth c H locs 0 0 (MQ below (QiS wkX g σ Rz) args s 0 0 (AS wkX g)) (F0 m 4 ls []) := by
  intro n
  induction n with
  | zero =>
    intro x1 x2 H locs ls h
    cases h
  | succ n ih =>
    intro x1 x2 H locs ls h hP hS hl
    obtain ⟨hx, hb, hml, hown, hts, hr, hlk, hK, hZ⟩ := id C
    rw [fX8_allLava_L4] at h
    refine lv_iload_n hx hb dX8_allLava_4 rfl (lv_at hl 2 rfl) ?_
    refine lv_aload_n hx hb dX8_allLava_5 rfl (lv_at hl 0 rfl) ?_
    refine r_geti C cf_8 hP (sv_0 hv0) (kv_0 hv0) 0 (by decide) rfl tw_68 dX8_allLava_6 ?_
    refine lv_icmp_ge (tgt := 27) hx hb dX8_allLava_9 (by decide) (fun c_ => ?_) (fun c_ => ?_)
    · replace h := if_t c_ h
      refine lv_iload_n hx hb dX8_allLava_27 rfl (lv_at hl 1 rfl) ?_
      exact r_reti C hP hS rfl (rt_o h) dX8_allLava_28
    · replace h := if_f c_ h
      refine lv_iload_n hx hb dX8_allLava_12 rfl (lv_at hl 1 rfl) ?_
      refine lv_aload_n hx hb dX8_allLava_13 rfl (lv_at hl 0 rfl) ?_
      refine r_getr C cf_8 hP (sv_0 hv0) (kv_0 hv0) 6 (by decide) rfl tw_74 dX8_allLava_14 ?_
      refine lv_iload_n hx hb dX8_allLava_17 rfl (lv_at hl 2 rfl) ?_
      obtain ⟨g_1, h⟩ := gd_inv h
      refine r_iald C hP (sv_2 hv0) (kv_2 hv0) rfl g_1 dX8_allLava_18 ?_
      refine lv_iadd hx hb dX8_allLava_19 ?_
      refine lv_topi (fun x_2 ex_2 => ?_)
      replace h := un_at ex_2 h
      refine lv_istore_n (lv' := [(1, .int x_2), (0, .ref (adG g v0)), (2, .int x2)]) hx hb dX8_allLava_20 rfl hl (by decide) rfl (fun ls hl => ?_)
      obtain ⟨x_3, ex_3⟩ : ∃ y : Int32, y = x2 + (1 : Int32) := ⟨_, rfl⟩
      replace h := un_at ex_3 h
      refine lv_iinc (v := x_3) (lv' := [(2, .int x_3), (1, .int x_2), (0, .ref (adG g v0))]) hx hb dX8_allLava_21 hl (k := 2) rfl (by rw [ex_3]; rfl) (by decide) rfl (fun ls hl => ?_)
      refine lv_goto (tgt := 4) hx hb dX8_allLava_24 (by decide) ?_
      exact ih x_2 x_3 H locs ls h hP hS (lv_sub hl [2, 1, 0] rfl)

set_option maxRecDepth 100000 in
set_option maxHeartbeats 4000000 in
theorem ctX8_allLava {l : Launch} {g : Gw} {σ : Sto} (v0 : Nat) (hv0 : isV v0) {Rz : Int32} (h : fX8_allLava σ v0 = some Rz) : MtG l yX8_allLava cX8_allLava 3 (some .int) 0 wkX g [.ref (adG g v0)] σ (QiS wkX g σ Rz) := by
  refine mt_of (by decide) (Nat.le_of_ble_eq_true rfl) (fun p e s m below meth c ls H locs C hP hS hl => ?_)
  have C : Cx wkX g p s m _ meth c cX8_allLava 3 RX8 (some .int) := C
  have hl : lv_has ls 3 [(0, .ref (adG g v0))] := hl
  obtain ⟨hx, hb, hml, hown, hts, hr, hlk, hK, hZ⟩ := id C
  unfold fX8_allLava at h
  refine lv_iconst (v := 0) hx hb dX8_allLava_0 (by decide) ?_
  refine lv_istore_n (lv' := [(1, .int (0 : Int32)), (0, .ref (adG g v0))]) hx hb dX8_allLava_1 rfl hl (by decide) rfl (fun ls hl => ?_)
  refine lv_iconst (v := 0) hx hb dX8_allLava_2 (by decide) ?_
  refine lv_istore_n (lv' := [(2, .int (0 : Int32)), (1, .int (0 : Int32)), (0, .ref (adG g v0))]) hx hb dX8_allLava_3 rfl hl (by decide) rfl (fun ls hl => ?_)
  exact wfX8_allLava_L4 C v0 hv0 fu (0 : Int32) (0 : Int32) H locs ls h hP hS (lv_sub hl [2, 1, 0] rfl)

set_option maxRecDepth 100000 in
set_option maxHeartbeats 4000000 in
theorem ctX9_within {l : Launch} {g : Gw} {σ : Sto} (x0 : Int32) (x1 : Int32) (x2 : Int32) {Rz : Int32} (h : fX9_within x0 x1 x2 = Rz) : MtG l yX9_within cX9_within 3 (some .boolean) 0 wkX g [.int x0, .int x1, .int x2] σ (QiS wkX g σ Rz) := by
  refine mt_of (by decide) (Nat.le_of_ble_eq_true rfl) (fun p e s m below meth c ls H locs C hP hS hl => ?_)
  have C : Cx wkX g p s m _ meth c cX9_within 3 RX9 (some .boolean) := C
  have hl : lv_has ls 3 [(0, .int x0), (1, .int x1), (2, .int x2)] := hl
  obtain ⟨hx, hb, hml, hown, hts, hr, hlk, hK, hZ⟩ := id C
  unfold fX9_within at h
  refine lv_iload_n hx hb dX9_within_0 rfl (lv_at hl 0 rfl) ?_
  refine lv_iload_n hx hb dX9_within_1 rfl (lv_at hl 1 rfl) ?_
  refine lv_icmp_lt (tgt := 14) hx hb dX9_within_2 (by decide) (fun c_ => ?_) (fun c_ => ?_)
  · replace h := if_t c_ h
    refine lv_iconst (v := 0) hx hb dX9_within_14 (by decide) ?_
    exact r_retz C hP hS rfl h rfl dX9_within_15
  · replace h := if_f c_ h
    refine lv_iload_n hx hb dX9_within_5 rfl (lv_at hl 0 rfl) ?_
    refine lv_iload_n hx hb dX9_within_6 rfl (lv_at hl 2 rfl) ?_
    refine lv_icmp_gt (tgt := 14) hx hb dX9_within_7 (by decide) (fun c_ => ?_) (fun c_ => ?_)
    · replace h := if_t c_ h
      refine lv_iconst (v := 0) hx hb dX9_within_14 (by decide) ?_
      exact r_retz C hP hS rfl h rfl dX9_within_15
    · replace h := if_f c_ h
      refine lv_iconst (v := 1) hx hb dX9_within_10 (by decide) ?_
      refine lv_goto (tgt := 15) hx hb dX9_within_11 (by decide) ?_
      exact r_retz C hP hS rfl h rfl dX9_within_15

set_option maxRecDepth 100000 in
set_option maxHeartbeats 4000000 in
theorem ctX9_found {l : Launch} {g : Gw} {σ : Sto} (x1 : Int32) {Rz : (Sto × Int32)} (h : fX9_found σ x1 = Rz) : MtG l yX9_found cX9_found 2 (some .int) 0 wkX g [.ref (adG g 0), .int x1] σ (QiS wkX g Rz.1 Rz.2) := by
  refine mt_of (by decide) (Nat.le_of_ble_eq_true rfl) (fun p e s m below meth c ls H locs C hP hS hl => ?_)
  have C : Cx wkX g p s m _ meth c cX9_found 2 RX9 (some .int) := C
  have hl : lv_has ls 2 [(0, .ref (adG g 0)), (1, .int x1)] := hl
  obtain ⟨hx, hb, hml, hown, hts, hr, hlk, hK, hZ⟩ := id C
  unfold fX9_found at h
  refine lv_aload_n hx hb dX9_found_0 rfl (lv_at hl 0 rfl) ?_
  refine lv_iload_n hx hb dX9_found_1 rfl (lv_at hl 1 rfl) ?_
  refine r_puti C cf_9 hP hS sx_0 kx_0 9 (by decide) rfl rfl rfl tw_45 dX9_found_2 (fun H locs σ_1 eσ_1 hP hS => ?_)
  replace h := un_at eσ_1 h
  refine lv_ldcw hx hb hown (hts _ tw_174) dX9_found_5 ?_
  refine lv_iload_n hx hb dX9_found_8 rfl (lv_at hl 1 rfl) ?_
  refine lv_isub hx hb dX9_found_9 ?_
  exact r_reti C hP hS (rt_tw1 h) (rt_tw2 h) dX9_found_10

set_option maxRecDepth 100000 in
set_option maxHeartbeats 4000000 in
theorem ctX9_unfound {l : Launch} {g : Gw} {σ : Sto} (x1 : Int32) {Rz : (Sto × Int32)} (h : fX9_unfound σ x1 = Rz) : MtG l yX9_unfound cX9_unfound 2 (some .int) 0 wkX g [.ref (adG g 0), .int x1] σ (QiS wkX g Rz.1 Rz.2) := by
  refine mt_of (by decide) (Nat.le_of_ble_eq_true rfl) (fun p e s m below meth c ls H locs C hP hS hl => ?_)
  have C : Cx wkX g p s m _ meth c cX9_unfound 2 RX9 (some .int) := C
  have hl : lv_has ls 2 [(0, .ref (adG g 0)), (1, .int x1)] := hl
  obtain ⟨hx, hb, hml, hown, hts, hr, hlk, hK, hZ⟩ := id C
  unfold fX9_unfound at h
  refine lv_aload_n hx hb dX9_unfound_0 rfl (lv_at hl 0 rfl) ?_
  refine lv_iconst (v := 0) hx hb dX9_unfound_1 (by decide) ?_
  refine r_puti C cf_9 hP hS sx_0 kx_0 9 (by decide) rfl rfl rfl tw_45 dX9_unfound_2 (fun H locs σ_1 eσ_1 hP hS => ?_)
  replace h := un_at eσ_1 h
  refine lv_iload_n hx hb dX9_unfound_5 rfl (lv_at hl 1 rfl) ?_
  exact r_reti C hP hS (rt_tw1 h) (rt_tw2 h) dX9_unfound_6

set_option maxRecDepth 100000 in
set_option maxHeartbeats 4000000 in
theorem ctX9_row {l : Launch} {g : Gw} {σ : Sto} (x1 : Int32) (x2 : Int32) (x3 : Int32) {Rz : (Sto × Int32)} (h : fX9_row σ x1 x2 x3 = some Rz) : MtG l yX9_row cX9_row 4 (some .int) 1 wkX g [.ref (adG g 0), .int x1, .int x2, .int x3] σ (QiS wkX g Rz.1 Rz.2) := by
  refine mt_of (by decide) (Nat.le_of_ble_eq_true rfl) (fun p e s m below meth c ls H locs C hP hS hl => ?_)
  have C : Cx wkX g p s m _ meth c cX9_row 4 RX9 (some .int) := C
  have hl : lv_has ls 4 [(0, .ref (adG g 0)), (1, .int x1), (2, .int x2), (3, .int x3)] := hl
  obtain ⟨hx, hb, hml, hown, hts, hr, hlk, hK, hZ⟩ := id C
  unfold fX9_row at h
  refine lv_aload_n hx hb dX9_row_0 rfl (lv_at hl 0 rfl) ?_
  refine r_getr C cf_9 hP sx_0 kx_0 0 (by decide) rfl tw_15 dX9_row_1 ?_
  refine lv_iload_n hx hb dX9_row_4 rfl (lv_at hl 1 rfl) ?_
  refine end_i (run_v (As := [.int x1]) (rest := []) C ca_X4_isNumber (ctX4_isNumber x1 rfl) cf_4 sx_1 kx_1 tw_163 ⟨Nat.le_of_ble_eq_true rfl, Nat.le_of_ble_eq_true rfl⟩ rfl hl.1 (Nat.le_of_ble_eq_true rfl) ⟨Nat.le_refl _, Nat.le_refl _⟩ hP hS dX9_row_5) hS (fun H locs hP hS => ?_)
  refine lv_if_eq (tgt := 26) hx hb dX9_row_8 (by decide) (fun c_ => ?_) (fun c_ => ?_)
  · replace h := if_t c_ h
    refine lv_ldc hx hb hown (hts _ tw_162) dX9_row_26 ?_
    exact r_reti C hP hS (rt_ow1 h) (rt_ow2 h) dX9_row_28
  · replace h := if_f c_ h
    refine lv_iload_n hx hb dX9_row_11 rfl (lv_at hl 2 rfl) ?_
    refine lv_iconst (v := 0) hx hb dX9_row_12 (by decide) ?_
    refine lv_iconst (v := 2) hx hb dX9_row_13 (by decide) ?_
    refine end_i (run_s (As := [.int x2, .int (0 : Int32), .int (2 : Int32)]) (rest := []) C ca_X9_within (ctX9_within x2 (0 : Int32) (2 : Int32) rfl) tw_167 ⟨Nat.le_of_ble_eq_true rfl, Nat.le_of_ble_eq_true rfl⟩ rfl hl.1 (Nat.le_of_ble_eq_true rfl) ⟨Nat.le_refl _, Nat.le_refl _⟩ hP hS dX9_row_14) hS (fun H locs hP hS => ?_)
    refine lv_if_eq (tgt := 26) hx hb dX9_row_17 (by decide) (fun c_ => ?_) (fun c_ => ?_)
    · replace h := if_t c_ h
      refine lv_ldc hx hb hown (hts _ tw_162) dX9_row_26 ?_
      exact r_reti C hP hS (rt_ow1 h) (rt_ow2 h) dX9_row_28
    · replace h := if_f c_ h
      refine lv_iload_n hx hb dX9_row_20 rfl (lv_at hl 3 rfl) ?_
      refine lv_bipush (v := 40) hx hb dX9_row_21 (by decide) ?_
      refine lv_icmp_le (tgt := 29) hx hb dX9_row_23 (by decide) (fun c_ => ?_) (fun c_ => ?_)
      · replace h := if_t c_ h
        refine lv_iload_n hx hb dX9_row_29 rfl (lv_at hl 3 rfl) ?_
        refine lv_if_ge (tgt := 39) hx hb dX9_row_30 (by decide) (fun c_ => ?_) (fun c_ => ?_)
        · replace h := if_t c_ h
          refine lv_aload_n hx hb dX9_row_39 rfl (lv_at hl 0 rfl) ?_
          refine r_getr C cf_9 hP sx_0 kx_0 0 (by decide) rfl tw_15 dX9_row_40 ?_
          refine lv_iload_n hx hb dX9_row_43 rfl (lv_at hl 1 rfl) ?_
          refine lv_iload_n hx hb dX9_row_44 rfl (lv_at hl 2 rfl) ?_
          refine lv_iload_n hx hb dX9_row_45 rfl (lv_at hl 3 rfl) ?_
          obtain ⟨q_3, hq_3, h⟩ := bd_inv h
          refine end_v (run_v (As := [.int x1, .int x2, .int x3]) (rest := []) C ca_X4_make (ctX4_make x1 x2 x3 hq_3) cf_4 sx_1 kx_1 tw_175 ⟨Nat.le_of_ble_eq_true rfl, Nat.le_of_ble_eq_true rfl⟩ rfl hl.1 (Nat.le_of_ble_eq_true rfl) ⟨Nat.le_refl _, Nat.le_refl _⟩ hP hS dX9_row_46) hS (fun H locs hP hS => ?_)
          refine lv_aload_n hx hb dX9_row_49 rfl (lv_at hl 0 rfl) ?_
          refine lv_iload_n hx hb dX9_row_50 rfl (lv_at hl 3 rfl) ?_
          obtain ⟨q_4, eq_4⟩ : ∃ z, z = fX9_unfound q_3 x3 := ⟨_, rfl⟩
          replace h := un_at eq_4 h
          refine end_i (run_v (As := [.int x3]) (rest := []) C ca_X9_unfound (ctX9_unfound x3 eq_4.symm) cf_9 sx_0 kx_0 tw_179 ⟨Nat.le_of_ble_eq_true rfl, Nat.le_of_ble_eq_true rfl⟩ rfl hl.1 (Nat.le_of_ble_eq_true rfl) ⟨Nat.le_refl _, Nat.le_refl _⟩ hP hS dX9_row_51) hS (fun H locs hP hS => ?_)
          exact r_reti C hP hS (rt_ow1 h) (rt_ow2 h) dX9_row_54
        · replace h := if_f c_ h
          refine lv_aload_n hx hb dX9_row_33 rfl (lv_at hl 0 rfl) ?_
          refine lv_iconst (v := 4) hx hb dX9_row_34 (by decide) ?_
          obtain ⟨q_5, eq_5⟩ : ∃ z, z = fX9_found σ (4 : Int32) := ⟨_, rfl⟩
          replace h := un_at eq_5 h
          refine end_i (run_v (As := [.int (4 : Int32)]) (rest := []) C ca_X9_found (ctX9_found (4 : Int32) eq_5.symm) cf_9 sx_0 kx_0 tw_170 ⟨Nat.le_of_ble_eq_true rfl, Nat.le_of_ble_eq_true rfl⟩ rfl hl.1 (Nat.le_of_ble_eq_true rfl) ⟨Nat.le_refl _, Nat.le_refl _⟩ hP hS dX9_row_35) hS (fun H locs hP hS => ?_)
          exact r_reti C hP hS (rt_ow1 h) (rt_ow2 h) dX9_row_38
      · replace h := if_f c_ h
        refine lv_ldc hx hb hown (hts _ tw_162) dX9_row_26 ?_
        exact r_reti C hP hS (rt_ow1 h) (rt_ow2 h) dX9_row_28

set_option maxRecDepth 100000 in
set_option maxHeartbeats 4000000 in
theorem ctX9_set {l : Launch} {g : Gw} {σ : Sto} (x1 : Int32) (x2 : Int32) (x3 : Int32) {Rz : (Sto × Int32)} (h : fX9_set σ x1 x2 x3 = some Rz) : MtG l yX9_set cX9_set 5 (some .int) 2 wkX g [.ref (adG g 0), .int x1, .int x2, .int x3] σ (QiS wkX g Rz.1 Rz.2) := by
  refine mt_of (by decide) (Nat.le_of_ble_eq_true rfl) (fun p e s m below meth c ls H locs C hP hS hl => ?_)
  have C : Cx wkX g p s m _ meth c cX9_set 5 RX9 (some .int) := C
  have hl : lv_has ls 5 [(0, .ref (adG g 0)), (1, .int x1), (2, .int x2), (3, .int x3)] := hl
  obtain ⟨hx, hb, hml, hown, hts, hr, hlk, hK, hZ⟩ := id C
  unfold fX9_set at h
  refine lv_aload_n hx hb dX9_set_0 rfl (lv_at hl 0 rfl) ?_
  refine r_getr C cf_9 hP sx_0 kx_0 0 (by decide) rfl tw_15 dX9_set_1 ?_
  refine lv_iload_n hx hb dX9_set_4 rfl (lv_at hl 1 rfl) ?_
  refine end_i (run_v (As := [.int x1]) (rest := []) C ca_X4_isNumber (ctX4_isNumber x1 rfl) cf_4 sx_1 kx_1 tw_163 ⟨Nat.le_of_ble_eq_true rfl, Nat.le_of_ble_eq_true rfl⟩ rfl hl.1 (Nat.le_of_ble_eq_true rfl) ⟨Nat.le_refl _, Nat.le_refl _⟩ hP hS dX9_set_5) hS (fun H locs hP hS => ?_)
  refine lv_if_ne (tgt := 14) hx hb dX9_set_8 (by decide) (fun c_ => ?_) (fun c_ => ?_)
  · replace h := if_f c_ h
    refine lv_aload_n hx hb dX9_set_14 rfl (lv_at hl 0 rfl) ?_
    refine r_getr C cf_9 hP sx_0 kx_0 0 (by decide) rfl tw_15 dX9_set_15 ?_
    refine lv_iload_n hx hb dX9_set_18 rfl (lv_at hl 1 rfl) ?_
    refine lv_iload_n hx hb dX9_set_19 rfl (lv_at hl 2 rfl) ?_
    refine lv_iconst (v := 1) hx hb dX9_set_20 (by decide) ?_
    obtain ⟨q_2, hq_2, h⟩ := bd_inv h
    refine end_i (run_v (As := [.int x1, .int x2, .int (1 : Int32)]) (rest := []) C ca_X4_findingAt (ctX4_findingAt x1 x2 (1 : Int32) hq_2) cf_4 sx_1 kx_1 tw_210 ⟨Nat.le_of_ble_eq_true rfl, Nat.le_of_ble_eq_true rfl⟩ rfl hl.1 (Nat.le_of_ble_eq_true rfl) ⟨Nat.le_refl _, Nat.le_refl _⟩ hP hS dX9_set_21) hS (fun H locs hP hS => ?_)
    refine lv_istore (lv' := [(4, .int q_2), (0, .ref (adG g 0)), (1, .int x1), (2, .int x2), (3, .int x3)]) hx hb dX9_set_24 hl (by decide) rfl (fun ls hl => ?_)
    refine lv_iload hx hb dX9_set_26 (lv_at hl 0 rfl) ?_
    refine lv_if_eq (tgt := 38) hx hb dX9_set_28 (by decide) (fun c_ => ?_) (fun c_ => ?_)
    · replace h := if_t c_ h
      refine lv_aload_n hx hb dX9_set_38 rfl (lv_at hl 1 rfl) ?_
      refine lv_aload_n hx hb dX9_set_39 rfl (lv_at hl 1 rfl) ?_
      refine r_getr C cf_9 hP sx_0 kx_0 0 (by decide) rfl tw_15 dX9_set_40 ?_
      refine lv_iload_n hx hb dX9_set_43 rfl (lv_at hl 2 rfl) ?_
      refine lv_iload_n hx hb dX9_set_44 rfl (lv_at hl 3 rfl) ?_
      refine lv_iload_n hx hb dX9_set_45 rfl (lv_at hl 4 rfl) ?_
      obtain ⟨q_3, hq_3, h⟩ := bd_inv h
      refine end_i (run_v (As := [.int x1, .int x2, .int x3]) (rest := [.ref (adG g 0)]) C ca_X4_put (ctX4_put x1 x2 x3 hq_3) cf_4 sx_1 kx_1 tw_222 ⟨Nat.le_of_ble_eq_true rfl, Nat.le_of_ble_eq_true rfl⟩ rfl hl.1 (Nat.le_of_ble_eq_true rfl) ⟨Nat.le_refl _, Nat.le_refl _⟩ hP hS dX9_set_46) hS (fun H locs hP hS => ?_)
      obtain ⟨q_4, eq_4⟩ : ∃ z, z = fX9_unfound q_3.1 q_3.2 := ⟨_, rfl⟩
      replace h := un_at eq_4 h
      refine end_i (run_v (As := [.int q_3.2]) (rest := []) C ca_X9_unfound (ctX9_unfound q_3.2 eq_4.symm) cf_9 sx_0 kx_0 tw_179 ⟨Nat.le_of_ble_eq_true rfl, Nat.le_of_ble_eq_true rfl⟩ rfl hl.1 (Nat.le_of_ble_eq_true rfl) ⟨Nat.le_refl _, Nat.le_refl _⟩ hP hS dX9_set_49) hS (fun H locs hP hS => ?_)
      exact r_reti C hP hS (rt_ow1 h) (rt_ow2 h) dX9_set_52
    · replace h := if_f c_ h
      refine lv_aload_n hx hb dX9_set_31 rfl (lv_at hl 1 rfl) ?_
      refine lv_iload hx hb dX9_set_32 (lv_at hl 0 rfl) ?_
      obtain ⟨q_5, eq_5⟩ : ∃ z, z = fX9_found σ q_2 := ⟨_, rfl⟩
      replace h := un_at eq_5 h
      refine end_i (run_v (As := [.int q_2]) (rest := []) C ca_X9_found (ctX9_found q_2 eq_5.symm) cf_9 sx_0 kx_0 tw_170 ⟨Nat.le_of_ble_eq_true rfl, Nat.le_of_ble_eq_true rfl⟩ rfl hl.1 (Nat.le_of_ble_eq_true rfl) ⟨Nat.le_refl _, Nat.le_refl _⟩ hP hS dX9_set_34) hS (fun H locs hP hS => ?_)
      exact r_reti C hP hS (rt_ow1 h) (rt_ow2 h) dX9_set_37
  · replace h := if_t c_ h
    refine lv_ldc hx hb hown (hts _ tw_162) dX9_set_11 ?_
    exact r_reti C hP hS (rt_ow1 h) (rt_ow2 h) dX9_set_13

set_option maxRecDepth 100000 in
set_option maxHeartbeats 4000000 in
theorem ctX9_copy {l : Launch} {g : Gw} {σ : Sto} (x1 : Int32) (x2 : Int32) (x3 : Int32) (x4 : Int32) (x5 : Int32) {Rz : (Sto × Int32)} (h : fX9_copy σ x1 x2 x3 x4 x5 = some Rz) : MtG l yX9_copy cX9_copy 7 (some .int) 3 wkX g [.ref (adG g 0), .int x1, .int x2, .int x3, .int x4, .int x5] σ (QiS wkX g Rz.1 Rz.2) := by
  refine mt_of (by decide) (Nat.le_of_ble_eq_true rfl) (fun p e s m below meth c ls H locs C hP hS hl => ?_)
  have C : Cx wkX g p s m _ meth c cX9_copy 7 RX9 (some .int) := C
  have hl : lv_has ls 7 [(0, .ref (adG g 0)), (1, .int x1), (2, .int x2), (3, .int x3), (4, .int x4), (5, .int x5)] := hl
  obtain ⟨hx, hb, hml, hown, hts, hr, hlk, hK, hZ⟩ := id C
  unfold fX9_copy at h
  refine lv_aload_n hx hb dX9_copy_0 rfl (lv_at hl 0 rfl) ?_
  refine r_getr C cf_9 hP sx_0 kx_0 0 (by decide) rfl tw_15 dX9_copy_1 ?_
  refine lv_iload_n hx hb dX9_copy_4 rfl (lv_at hl 1 rfl) ?_
  refine end_i (run_v (As := [.int x1]) (rest := []) C ca_X4_isNumber (ctX4_isNumber x1 rfl) cf_4 sx_1 kx_1 tw_163 ⟨Nat.le_of_ble_eq_true rfl, Nat.le_of_ble_eq_true rfl⟩ rfl hl.1 (Nat.le_of_ble_eq_true rfl) ⟨Nat.le_refl _, Nat.le_refl _⟩ hP hS dX9_copy_5) hS (fun H locs hP hS => ?_)
  refine lv_if_eq (tgt := 22) hx hb dX9_copy_8 (by decide) (fun c_ => ?_) (fun c_ => ?_)
  · replace h := if_t c_ h
    refine lv_ldc hx hb hown (hts _ tw_162) dX9_copy_22 ?_
    exact r_reti C hP hS (rt_ow1 h) (rt_ow2 h) dX9_copy_24
  · replace h := if_f c_ h
    refine lv_aload_n hx hb dX9_copy_11 rfl (lv_at hl 0 rfl) ?_
    refine r_getr C cf_9 hP sx_0 kx_0 0 (by decide) rfl tw_15 dX9_copy_12 ?_
    refine lv_iload_n hx hb dX9_copy_15 rfl (lv_at hl 3 rfl) ?_
    refine end_i (run_v (As := [.int x3]) (rest := []) C ca_X4_isNumber (ctX4_isNumber x3 rfl) cf_4 sx_1 kx_1 tw_163 ⟨Nat.le_of_ble_eq_true rfl, Nat.le_of_ble_eq_true rfl⟩ rfl hl.1 (Nat.le_of_ble_eq_true rfl) ⟨Nat.le_refl _, Nat.le_refl _⟩ hP hS dX9_copy_16) hS (fun H locs hP hS => ?_)
    refine lv_if_ne (tgt := 25) hx hb dX9_copy_19 (by decide) (fun c_ => ?_) (fun c_ => ?_)
    · replace h := if_f c_ h
      refine lv_aload_n hx hb dX9_copy_25 rfl (lv_at hl 0 rfl) ?_
      refine r_getr C cf_9 hP sx_0 kx_0 0 (by decide) rfl tw_15 dX9_copy_26 ?_
      refine lv_iload_n hx hb dX9_copy_29 rfl (lv_at hl 1 rfl) ?_
      refine lv_iload_n hx hb dX9_copy_30 rfl (lv_at hl 2 rfl) ?_
      refine lv_iload_n hx hb dX9_copy_31 rfl (lv_at hl 3 rfl) ?_
      refine lv_iload hx hb dX9_copy_32 (lv_at hl 4 rfl) ?_
      refine lv_iload hx hb dX9_copy_34 (lv_at hl 5 rfl) ?_
      obtain ⟨q_3, hq_3, h⟩ := bd_inv h
      refine end_i (run_v (As := [.int x1, .int x2, .int x3, .int x4, .int x5]) (rest := []) C ca_X4_findingBetween (ctX4_findingBetween x1 x2 x3 x4 x5 hq_3) cf_4 sx_1 kx_1 tw_237 ⟨Nat.le_of_ble_eq_true rfl, Nat.le_of_ble_eq_true rfl⟩ rfl hl.1 (Nat.le_of_ble_eq_true rfl) ⟨Nat.le_refl _, Nat.le_refl _⟩ hP hS dX9_copy_36) hS (fun H locs hP hS => ?_)
      refine lv_istore (lv' := [(6, .int q_3), (0, .ref (adG g 0)), (1, .int x1), (2, .int x2), (3, .int x3), (4, .int x4), (5, .int x5)]) hx hb dX9_copy_39 hl (by decide) rfl (fun ls hl => ?_)
      refine lv_iload hx hb dX9_copy_41 (lv_at hl 0 rfl) ?_
      refine lv_if_eq (tgt := 53) hx hb dX9_copy_43 (by decide) (fun c_ => ?_) (fun c_ => ?_)
      · replace h := if_t c_ h
        refine lv_aload_n hx hb dX9_copy_53 rfl (lv_at hl 1 rfl) ?_
        refine r_getr C cf_9 hP sx_0 kx_0 0 (by decide) rfl tw_15 dX9_copy_54 ?_
        refine lv_iload_n hx hb dX9_copy_57 rfl (lv_at hl 2 rfl) ?_
        refine lv_iload_n hx hb dX9_copy_58 rfl (lv_at hl 3 rfl) ?_
        refine lv_iload_n hx hb dX9_copy_59 rfl (lv_at hl 4 rfl) ?_
        refine lv_iload hx hb dX9_copy_60 (lv_at hl 5 rfl) ?_
        refine lv_iload hx hb dX9_copy_62 (lv_at hl 6 rfl) ?_
        obtain ⟨q_4, hq_4, h⟩ := bd_inv h
        refine end_v (run_v (As := [.int x1, .int x2, .int x3, .int x4, .int x5]) (rest := []) C ca_X4_move (ctX4_move x1 x2 x3 x4 x5 hq_4) cf_4 sx_1 kx_1 tw_241 ⟨Nat.le_of_ble_eq_true rfl, Nat.le_of_ble_eq_true rfl⟩ rfl hl.1 (Nat.le_of_ble_eq_true rfl) ⟨Nat.le_refl _, Nat.le_refl _⟩ hP hS dX9_copy_64) hS (fun H locs hP hS => ?_)
        refine lv_aload_n hx hb dX9_copy_67 rfl (lv_at hl 1 rfl) ?_
        refine lv_iload hx hb dX9_copy_68 (lv_at hl 6 rfl) ?_
        obtain ⟨q_5, eq_5⟩ : ∃ z, z = fX9_unfound q_4 x5 := ⟨_, rfl⟩
        replace h := un_at eq_5 h
        refine end_i (run_v (As := [.int x5]) (rest := []) C ca_X9_unfound (ctX9_unfound x5 eq_5.symm) cf_9 sx_0 kx_0 tw_179 ⟨Nat.le_of_ble_eq_true rfl, Nat.le_of_ble_eq_true rfl⟩ rfl hl.1 (Nat.le_of_ble_eq_true rfl) ⟨Nat.le_refl _, Nat.le_refl _⟩ hP hS dX9_copy_70) hS (fun H locs hP hS => ?_)
        exact r_reti C hP hS (rt_ow1 h) (rt_ow2 h) dX9_copy_73
      · replace h := if_f c_ h
        refine lv_aload_n hx hb dX9_copy_46 rfl (lv_at hl 1 rfl) ?_
        refine lv_iload hx hb dX9_copy_47 (lv_at hl 0 rfl) ?_
        obtain ⟨q_6, eq_6⟩ : ∃ z, z = fX9_found σ q_3 := ⟨_, rfl⟩
        replace h := un_at eq_6 h
        refine end_i (run_v (As := [.int q_3]) (rest := []) C ca_X9_found (ctX9_found q_3 eq_6.symm) cf_9 sx_0 kx_0 tw_170 ⟨Nat.le_of_ble_eq_true rfl, Nat.le_of_ble_eq_true rfl⟩ rfl hl.1 (Nat.le_of_ble_eq_true rfl) ⟨Nat.le_refl _, Nat.le_refl _⟩ hP hS dX9_copy_49) hS (fun H locs hP hS => ?_)
        exact r_reti C hP hS (rt_ow1 h) (rt_ow2 h) dX9_copy_52
    · replace h := if_t c_ h
      refine lv_ldc hx hb hown (hts _ tw_162) dX9_copy_22 ?_
      exact r_reti C hP hS (rt_ow1 h) (rt_ow2 h) dX9_copy_24

set_option maxRecDepth 100000 in
set_option maxHeartbeats 4000000 in
theorem ctX9_drop {l : Launch} {g : Gw} {σ : Sto} (x1 : Int32) {Rz : (Sto × Int32)} (h : fX9_drop σ x1 = some Rz) : MtG l yX9_drop cX9_drop 2 (some .int) 1 wkX g [.ref (adG g 0), .int x1] σ (QiS wkX g Rz.1 Rz.2) := by
  refine mt_of (by decide) (Nat.le_of_ble_eq_true rfl) (fun p e s m below meth c ls H locs C hP hS hl => ?_)
  have C : Cx wkX g p s m _ meth c cX9_drop 2 RX9 (some .int) := C
  have hl : lv_has ls 2 [(0, .ref (adG g 0)), (1, .int x1)] := hl
  obtain ⟨hx, hb, hml, hown, hts, hr, hlk, hK, hZ⟩ := id C
  unfold fX9_drop at h
  refine lv_aload_n hx hb dX9_drop_0 rfl (lv_at hl 0 rfl) ?_
  refine r_getr C cf_9 hP sx_0 kx_0 0 (by decide) rfl tw_15 dX9_drop_1 ?_
  refine lv_iload_n hx hb dX9_drop_4 rfl (lv_at hl 1 rfl) ?_
  refine end_i (run_v (As := [.int x1]) (rest := []) C ca_X4_isNumber (ctX4_isNumber x1 rfl) cf_4 sx_1 kx_1 tw_163 ⟨Nat.le_of_ble_eq_true rfl, Nat.le_of_ble_eq_true rfl⟩ rfl hl.1 (Nat.le_of_ble_eq_true rfl) ⟨Nat.le_refl _, Nat.le_refl _⟩ hP hS dX9_drop_5) hS (fun H locs hP hS => ?_)
  refine lv_if_ne (tgt := 14) hx hb dX9_drop_8 (by decide) (fun c_ => ?_) (fun c_ => ?_)
  · replace h := if_f c_ h
    refine lv_aload_n hx hb dX9_drop_14 rfl (lv_at hl 0 rfl) ?_
    refine r_getr C cf_9 hP sx_0 kx_0 0 (by decide) rfl tw_15 dX9_drop_15 ?_
    refine lv_iload_n hx hb dX9_drop_18 rfl (lv_at hl 1 rfl) ?_
    obtain ⟨q_2, hq_2, h⟩ := bd_inv h
    refine end_i (run_v (As := [.int x1]) (rest := []) C ca_X4_isMissing (ctX4_isMissing x1 hq_2) cf_4 sx_1 kx_1 tw_257 ⟨Nat.le_of_ble_eq_true rfl, Nat.le_of_ble_eq_true rfl⟩ rfl hl.1 (Nat.le_of_ble_eq_true rfl) ⟨Nat.le_refl _, Nat.le_refl _⟩ hP hS dX9_drop_19) hS (fun H locs hP hS => ?_)
    refine lv_if_eq (tgt := 31) hx hb dX9_drop_22 (by decide) (fun c_ => ?_) (fun c_ => ?_)
    · replace h := if_t c_ h
      refine lv_aload_n hx hb dX9_drop_31 rfl (lv_at hl 0 rfl) ?_
      refine lv_aload_n hx hb dX9_drop_32 rfl (lv_at hl 0 rfl) ?_
      refine r_getr C cf_9 hP sx_0 kx_0 0 (by decide) rfl tw_15 dX9_drop_33 ?_
      refine lv_iload_n hx hb dX9_drop_36 rfl (lv_at hl 1 rfl) ?_
      obtain ⟨q_3, hq_3, h⟩ := bd_inv h
      refine end_i (run_v (As := [.int x1]) (rest := [.ref (adG g 0)]) C ca_X4_lose (ctX4_lose x1 hq_3) cf_4 sx_1 kx_1 tw_258 ⟨Nat.le_of_ble_eq_true rfl, Nat.le_of_ble_eq_true rfl⟩ rfl hl.1 (Nat.le_of_ble_eq_true rfl) ⟨Nat.le_refl _, Nat.le_refl _⟩ hP hS dX9_drop_37) hS (fun H locs hP hS => ?_)
      obtain ⟨q_4, eq_4⟩ : ∃ z, z = fX9_unfound q_3.1 q_3.2 := ⟨_, rfl⟩
      replace h := un_at eq_4 h
      refine end_i (run_v (As := [.int q_3.2]) (rest := []) C ca_X9_unfound (ctX9_unfound q_3.2 eq_4.symm) cf_9 sx_0 kx_0 tw_179 ⟨Nat.le_of_ble_eq_true rfl, Nat.le_of_ble_eq_true rfl⟩ rfl hl.1 (Nat.le_of_ble_eq_true rfl) ⟨Nat.le_refl _, Nat.le_refl _⟩ hP hS dX9_drop_40) hS (fun H locs hP hS => ?_)
      exact r_reti C hP hS (rt_ow1 h) (rt_ow2 h) dX9_drop_43
    · replace h := if_f c_ h
      refine lv_aload_n hx hb dX9_drop_25 rfl (lv_at hl 0 rfl) ?_
      refine lv_iconst (v := 1) hx hb dX9_drop_26 (by decide) ?_
      obtain ⟨q_5, eq_5⟩ : ∃ z, z = fX9_found σ (1 : Int32) := ⟨_, rfl⟩
      replace h := un_at eq_5 h
      refine end_i (run_v (As := [.int (1 : Int32)]) (rest := []) C ca_X9_found (ctX9_found (1 : Int32) eq_5.symm) cf_9 sx_0 kx_0 tw_170 ⟨Nat.le_of_ble_eq_true rfl, Nat.le_of_ble_eq_true rfl⟩ rfl hl.1 (Nat.le_of_ble_eq_true rfl) ⟨Nat.le_refl _, Nat.le_refl _⟩ hP hS dX9_drop_27) hS (fun H locs hP hS => ?_)
      exact r_reti C hP hS (rt_ow1 h) (rt_ow2 h) dX9_drop_30
  · replace h := if_t c_ h
    refine lv_ldc hx hb hown (hts _ tw_162) dX9_drop_11 ?_
    exact r_reti C hP hS (rt_ow1 h) (rt_ow2 h) dX9_drop_13

set_option maxRecDepth 100000 in
set_option maxHeartbeats 4000000 in
theorem ctX9_feed {l : Launch} {g : Gw} {σ : Sto} (x1 : Int32) {Rz : (Sto × Int32)} (h : fX9_feed σ x1 = some Rz) : MtG l yX9_feed cX9_feed 2 (some .int) 1 wkX g [.ref (adG g 0), .int x1] σ (QiS wkX g Rz.1 Rz.2) := by
  refine mt_of (by decide) (Nat.le_of_ble_eq_true rfl) (fun p e s m below meth c ls H locs C hP hS hl => ?_)
  have C : Cx wkX g p s m _ meth c cX9_feed 2 RX9 (some .int) := C
  have hl : lv_has ls 2 [(0, .ref (adG g 0)), (1, .int x1)] := hl
  obtain ⟨hx, hb, hml, hown, hts, hr, hlk, hK, hZ⟩ := id C
  unfold fX9_feed at h
  refine lv_iload_n hx hb dX9_feed_0 rfl (lv_at hl 1 rfl) ?_
  refine lv_iconst (v := 0) hx hb dX9_feed_1 (by decide) ?_
  refine lv_sipush (v := 255) hx hb dX9_feed_2 (by decide) ?_
  refine end_i (run_s (As := [.int x1, .int (0 : Int32), .int (255 : Int32)]) (rest := []) C ca_X9_within (ctX9_within x1 (0 : Int32) (255 : Int32) rfl) tw_167 ⟨Nat.le_of_ble_eq_true rfl, Nat.le_of_ble_eq_true rfl⟩ rfl hl.1 (Nat.le_of_ble_eq_true rfl) ⟨Nat.le_refl _, Nat.le_refl _⟩ hP hS dX9_feed_5) hS (fun H locs hP hS => ?_)
  refine lv_if_ne (tgt := 14) hx hb dX9_feed_8 (by decide) (fun c_ => ?_) (fun c_ => ?_)
  · replace h := if_f c_ h
    refine lv_aload_n hx hb dX9_feed_14 rfl (lv_at hl 0 rfl) ?_
    refine r_getr C cf_9 hP sx_0 kx_0 1 (by decide) rfl tw_19 dX9_feed_15 ?_
    refine lv_iload_n hx hb dX9_feed_18 rfl (lv_at hl 1 rfl) ?_
    obtain ⟨q_2, hq_2, h⟩ := bd_inv h
    refine end_i (run_v (As := [.int x1]) (rest := []) C ca_X6_takeByte (ctX6_takeByte x1 hq_2) cf_6 sx_5 kx_5 tw_272 ⟨Nat.le_of_ble_eq_true rfl, Nat.le_of_ble_eq_true rfl⟩ rfl hl.1 (Nat.le_of_ble_eq_true rfl) ⟨Nat.le_refl _, Nat.le_refl _⟩ hP hS dX9_feed_19) hS (fun H locs hP hS => ?_)
    refine lv_if_eq (tgt := 35) hx hb dX9_feed_22 (by decide) (fun c_ => ?_) (fun c_ => ?_)
    · replace h := if_t c_ h
      refine lv_ldc hx hb hown (hts _ tw_271) dX9_feed_35 ?_
      exact r_reti C hP hS (rt_ow1 h) (rt_ow2 h) dX9_feed_37
    · replace h := if_f c_ h
      refine lv_aload_n hx hb dX9_feed_25 rfl (lv_at hl 0 rfl) ?_
      refine r_getr C cf_9 hP sx_0 kx_0 1 (by decide) rfl tw_19 dX9_feed_26 ?_
      refine r_geti C cf_6 hP sx_5 kx_5 1 (by decide) rfl tw_270 dX9_feed_29 ?_
      refine lv_goto (tgt := 37) hx hb dX9_feed_32 (by decide) ?_
      exact r_reti C hP hS (rt_ow1 h) (rt_ow2 h) dX9_feed_37
  · replace h := if_t c_ h
    refine lv_ldc hx hb hown (hts _ tw_162) dX9_feed_11 ?_
    exact r_reti C hP hS (rt_ow1 h) (rt_ow2 h) dX9_feed_13

set_option maxRecDepth 100000 in
set_option maxHeartbeats 4000000 in
theorem ctX9_street {l : Launch} {g : Gw} {σ : Sto} {Rz : (Sto × Int32)} (h : fX9_street σ = some Rz) : MtG l yX9_street cX9_street 1 (some .int) 5 wkX g [.ref (adG g 0)] σ (QiS wkX g Rz.1 Rz.2) := by
  refine mt_of (by decide) (Nat.le_of_ble_eq_true rfl) (fun p e s m below meth c ls H locs C hP hS hl => ?_)
  have C : Cx wkX g p s m _ meth c cX9_street 1 RX9 (some .int) := C
  have hl : lv_has ls 1 [(0, .ref (adG g 0))] := hl
  obtain ⟨hx, hb, hml, hown, hts, hr, hlk, hK, hZ⟩ := id C
  unfold fX9_street at h
  refine lv_aload_n hx hb dX9_street_0 rfl (lv_at hl 0 rfl) ?_
  refine r_getr C cf_9 hP sx_0 kx_0 1 (by decide) rfl tw_19 dX9_street_1 ?_
  obtain ⟨q_1, hq_1, h⟩ := bd_inv h
  refine end_i (run_v (As := []) (rest := []) C ca_X6_read (ctX6_read hq_1) cf_6 sx_5 kx_5 tw_291 ⟨Nat.le_of_ble_eq_true rfl, Nat.le_of_ble_eq_true rfl⟩ rfl hl.1 (Nat.le_of_ble_eq_true rfl) ⟨Nat.le_refl _, Nat.le_refl _⟩ hP hS dX9_street_4) hS (fun H locs hP hS => ?_)
  refine lv_if_ne (tgt := 21) hx hb dX9_street_7 (by decide) (fun c_ => ?_) (fun c_ => ?_)
  · replace h := if_f c_ h
    refine lv_aload_n hx hb dX9_street_21 rfl (lv_at hl 0 rfl) ?_
    refine r_getr C cf_9 hP sx_0 kx_0 2 (by decide) rfl tw_23 dX9_street_22 ?_
    refine lv_aload_n hx hb dX9_street_25 rfl (lv_at hl 0 rfl) ?_
    refine r_getr C cf_9 hP sx_0 kx_0 1 (by decide) rfl tw_19 dX9_street_26 ?_
    refine r_getr C cf_6 hP sx_5 kx_5 0 (by decide) rfl tw_289 dX9_street_29 ?_
    obtain ⟨q_2, eq_2⟩ : ∃ z, z = fX8_become q_1.1 36 44 := ⟨_, rfl⟩
    replace h := un_at eq_2 h
    refine end_v (run_v (As := [.ref (adG g 44)]) (rest := []) C ca_X8_become (ctX8_become 36 iv_36 44 iv_44 eq_2.symm) cf_8 (sv_0 iv_36) (kv_0 iv_36) tw_353 ⟨Nat.le_of_ble_eq_true rfl, Nat.le_of_ble_eq_true rfl⟩ rfl hl.1 (Nat.le_of_ble_eq_true rfl) ⟨Nat.le_refl _, Nat.le_refl _⟩ hP hS dX9_street_32) hS (fun H locs hP hS => ?_)
    refine lv_aload_n hx hb dX9_street_35 rfl (lv_at hl 0 rfl) ?_
    refine r_getr C cf_9 hP sx_0 kx_0 3 (by decide) rfl tw_27 dX9_street_36 ?_
    obtain ⟨q_3, eq_3⟩ : ∃ z, z = fX3_forget q_2 := ⟨_, rfl⟩
    replace h := un_at eq_3 h
    refine end_v (run_v (As := []) (rest := []) C ca_X3_forget (ctX3_forget eq_3.symm) cf_3 sx_7 kx_7 tw_358 ⟨Nat.le_of_ble_eq_true rfl, Nat.le_of_ble_eq_true rfl⟩ rfl hl.1 (Nat.le_of_ble_eq_true rfl) ⟨Nat.le_refl _, Nat.le_refl _⟩ hP hS dX9_street_39) hS (fun H locs hP hS => ?_)
    refine lv_aload_n hx hb dX9_street_42 rfl (lv_at hl 0 rfl) ?_
    refine r_getr C cf_9 hP sx_0 kx_0 2 (by decide) rfl tw_23 dX9_street_43 ?_
    refine r_geti C cf_8 hP (sv_0 iv_36) (kv_0 iv_36) 1 (by decide) rfl tw_290 dX9_street_46 ?_
    exact r_reti C hP hS (rt_ow1 h) (rt_ow2 h) dX9_street_49
  · replace h := if_t c_ h
    refine lv_ldc hx hb hown (hts _ tw_287) dX9_street_10 ?_
    refine lv_aload_n hx hb dX9_street_12 rfl (lv_at hl 0 rfl) ?_
    refine r_getr C cf_9 hP sx_0 kx_0 1 (by decide) rfl tw_19 dX9_street_13 ?_
    refine r_geti C cf_6 hP sx_5 kx_5 3 (by decide) rfl tw_288 dX9_street_16 ?_
    refine lv_isub hx hb dX9_street_19 ?_
    exact r_reti C hP hS (rt_ow1 h) (rt_ow2 h) dX9_street_20

set_option maxRecDepth 100000 in
set_option maxHeartbeats 4000000 in
theorem ctX9_fault {l : Launch} {g : Gw} {σ : Sto} {Rz : Int32} (h : fX9_fault σ = Rz) : MtG l yX9_fault cX9_fault 1 (some .int) 0 wkX g [.ref (adG g 0)] σ (QiS wkX g σ Rz) := by
  refine mt_of (by decide) (Nat.le_of_ble_eq_true rfl) (fun p e s m below meth c ls H locs C hP hS hl => ?_)
  have C : Cx wkX g p s m _ meth c cX9_fault 1 RX9 (some .int) := C
  have hl : lv_has ls 1 [(0, .ref (adG g 0))] := hl
  obtain ⟨hx, hb, hml, hown, hts, hr, hlk, hK, hZ⟩ := id C
  unfold fX9_fault at h
  refine lv_aload_n hx hb dX9_fault_0 rfl (lv_at hl 0 rfl) ?_
  refine r_getr C cf_9 hP sx_0 kx_0 1 (by decide) rfl tw_19 dX9_fault_1 ?_
  refine r_geti C cf_6 hP sx_5 kx_5 2 (by decide) rfl tw_416 dX9_fault_4 ?_
  exact r_reti C hP hS rfl h dX9_fault_7

set_option maxRecDepth 100000 in
set_option maxHeartbeats 4000000 in
theorem ctX9_undo {l : Launch} {g : Gw} {σ : Sto} {Rz : (Sto × Int32)} (h : fX9_undo σ = some Rz) : MtG l yX9_undo cX9_undo 1 (some .int) 4 wkX g [.ref (adG g 0)] σ (QiS wkX g Rz.1 Rz.2) := by
  refine mt_of (by decide) (Nat.le_of_ble_eq_true rfl) (fun p e s m below meth c ls H locs C hP hS hl => ?_)
  have C : Cx wkX g p s m _ meth c cX9_undo 1 RX9 (some .int) := C
  have hl : lv_has ls 1 [(0, .ref (adG g 0))] := hl
  obtain ⟨hx, hb, hml, hown, hts, hr, hlk, hK, hZ⟩ := id C
  unfold fX9_undo at h
  refine lv_aload_n hx hb dX9_undo_0 rfl (lv_at hl 0 rfl) ?_
  refine r_getr C cf_9 hP sx_0 kx_0 3 (by decide) rfl tw_27 dX9_undo_1 ?_
  refine lv_aload_n hx hb dX9_undo_4 rfl (lv_at hl 0 rfl) ?_
  refine r_getr C cf_9 hP sx_0 kx_0 2 (by decide) rfl tw_23 dX9_undo_5 ?_
  obtain ⟨q_1, hq_1, h⟩ := bd_inv h
  refine end_i (run_v (As := [.ref (adG g 36)]) (rest := []) C ca_X3_goBack (ctX3_goBack 36 iv_36 hq_1) cf_3 sx_7 kx_7 tw_427 ⟨Nat.le_of_ble_eq_true rfl, Nat.le_of_ble_eq_true rfl⟩ rfl hl.1 (Nat.le_of_ble_eq_true rfl) ⟨Nat.le_refl _, Nat.le_refl _⟩ hP hS dX9_undo_8) hS (fun H locs hP hS => ?_)
  refine lv_if_eq (tgt := 24) hx hb dX9_undo_11 (by decide) (fun c_ => ?_) (fun c_ => ?_)
  · replace h := if_t c_ h
    refine lv_ldc hx hb hown (hts _ tw_426) dX9_undo_24 ?_
    exact r_reti C hP hS (rt_ow1 h) (rt_ow2 h) dX9_undo_26
  · replace h := if_f c_ h
    refine lv_aload_n hx hb dX9_undo_14 rfl (lv_at hl 0 rfl) ?_
    refine r_getr C cf_9 hP sx_0 kx_0 3 (by decide) rfl tw_27 dX9_undo_15 ?_
    refine r_geti C cf_3 hP sx_7 kx_7 0 (by decide) rfl tw_425 dX9_undo_18 ?_
    refine lv_goto (tgt := 26) hx hb dX9_undo_21 (by decide) ?_
    exact r_reti C hP hS (rt_ow1 h) (rt_ow2 h) dX9_undo_26

set_option maxRecDepth 100000 in
set_option maxHeartbeats 4000000 in
theorem ctX9_isStreet {l : Launch} {g : Gw} {σ : Sto} {Rz : Int32} (h : fX9_isStreet σ = Rz) : MtG l yX9_isStreet cX9_isStreet 1 (some .boolean) 0 wkX g [.ref (adG g 0)] σ (QiS wkX g σ Rz) := by
  refine mt_of (by decide) (Nat.le_of_ble_eq_true rfl) (fun p e s m below meth c ls H locs C hP hS hl => ?_)
  have C : Cx wkX g p s m _ meth c cX9_isStreet 1 RX9 (some .boolean) := C
  have hl : lv_has ls 1 [(0, .ref (adG g 0))] := hl
  obtain ⟨hx, hb, hml, hown, hts, hr, hlk, hK, hZ⟩ := id C
  unfold fX9_isStreet at h
  refine lv_aload_n hx hb dX9_isStreet_0 rfl (lv_at hl 0 rfl) ?_
  refine r_getr C cf_9 hP sx_0 kx_0 2 (by decide) rfl tw_23 dX9_isStreet_1 ?_
  refine r_geti C cf_8 hP (sv_0 iv_36) (kv_0 iv_36) 0 (by decide) rfl tw_446 dX9_isStreet_4 ?_
  refine lv_if_le (tgt := 14) hx hb dX9_isStreet_7 (by decide) (fun c_ => ?_) (fun c_ => ?_)
  · replace h := if_t c_ h
    refine lv_iconst (v := 0) hx hb dX9_isStreet_14 (by decide) ?_
    exact r_retz C hP hS rfl h rfl dX9_isStreet_15
  · replace h := if_f c_ h
    refine lv_iconst (v := 1) hx hb dX9_isStreet_10 (by decide) ?_
    refine lv_goto (tgt := 15) hx hb dX9_isStreet_11 (by decide) ?_
    exact r_retz C hP hS rfl h rfl dX9_isStreet_15

set_option maxRecDepth 100000 in
set_option maxHeartbeats 4000000 in
theorem wfX9_days_L43 {l : Launch} {g : Gw} {p : Program} {e : Env} {s : State} {m : MethodId} {args : Array Value} {below : List Frame} {meth : Method} {c : Code} (C : Cx wkX g p s m args meth c cX9_days 3 RX9 (some .int)) {Rz : (Sto × Int32)} : ∀ (n : Nat) (σ : Sto) (x1 : Int32) (x2 : Int32) (H : Heap) (locs : List Loc) (ls : Array Slot), fX9_days_L43 n σ x1 x2 = some Rz → wS wkX g σ H → va_S (AS wkX g) s.heap H locs → lv_has ls 3 [(0, .ref (adG g 0)), (1, .int x1), (2, .int x2)] → W p l e (rmS 4) s m args below meth c H locs 0 0 (MQ below (QiS wkX g Rz.1 Rz.2) args s 0 0 (AS wkX g)) (F0 m 43 ls []) := by
  intro n
  induction n with
  | zero =>
    intro σ x1 x2 H locs ls h
    cases h
  | succ n ih =>
    intro σ x1 x2 H locs ls h hP hS hl
    obtain ⟨hx, hb, hml, hown, hts, hr, hlk, hK, hZ⟩ := id C
    rw [fX9_days_L43] at h
    refine lv_iload_n hx hb dX9_days_43 rfl (lv_at hl 2 rfl) ?_
    refine lv_iload_n hx hb dX9_days_44 rfl (lv_at hl 1 rfl) ?_
    refine lv_icmp_ge (tgt := 72) hx hb dX9_days_45 (by decide) (fun c_ => ?_) (fun c_ => ?_)
    · replace h := if_t c_ h
      refine lv_aload_n hx hb dX9_days_72 rfl (lv_at hl 0 rfl) ?_
      refine r_getr C cf_9 hP sx_0 kx_0 2 (by decide) rfl tw_23 dX9_days_73 ?_
      obtain ⟨q_1, hq_1, h⟩ := bd_inv h
      refine end_i (run_v (As := []) (rest := []) C ca_X8_stones (ctX8_stones 36 iv_36 hq_1) cf_8 (sv_0 iv_36) (kv_0 iv_36) tw_473 ⟨Nat.le_of_ble_eq_true rfl, Nat.le_of_ble_eq_true rfl⟩ rfl hl.1 (Nat.le_of_ble_eq_true rfl) ⟨Nat.le_refl _, Nat.le_refl _⟩ hP hS dX9_days_76) hS (fun H locs hP hS => ?_)
      exact r_reti C hP hS (rt_ow1 h) (rt_ow2 h) dX9_days_79
    · replace h := if_f c_ h
      refine lv_aload_n hx hb dX9_days_48 rfl (lv_at hl 0 rfl) ?_
      refine r_getr C cf_9 hP sx_0 kx_0 3 (by decide) rfl tw_27 dX9_days_49 ?_
      refine lv_aload_n hx hb dX9_days_52 rfl (lv_at hl 0 rfl) ?_
      refine r_getr C cf_9 hP sx_0 kx_0 2 (by decide) rfl tw_23 dX9_days_53 ?_
      obtain ⟨q_2, hq_2, h⟩ := bd_inv h
      refine end_v (run_v (As := [.ref (adG g 36)]) (rest := []) C ca_X3_keep (ctX3_keep 36 iv_36 hq_2) cf_3 sx_7 kx_7 tw_447 ⟨Nat.le_of_ble_eq_true rfl, Nat.le_of_ble_eq_true rfl⟩ rfl hl.1 (Nat.le_of_ble_eq_true rfl) ⟨Nat.le_refl _, Nat.le_refl _⟩ hP hS dX9_days_56) hS (fun H locs hP hS => ?_)
      refine lv_aload_n hx hb dX9_days_59 rfl (lv_at hl 0 rfl) ?_
      refine r_getr C cf_9 hP sx_0 kx_0 2 (by decide) rfl tw_23 dX9_days_60 ?_
      obtain ⟨q_3, hq_3, h⟩ := bd_inv h
      refine end_v (run_v (As := []) (rest := []) C ca_X8_pass (ctX8_pass 36 iv_36 hq_3) cf_8 (sv_0 iv_36) (kv_0 iv_36) tw_451 ⟨Nat.le_of_ble_eq_true rfl, Nat.le_of_ble_eq_true rfl⟩ rfl hl.1 (Nat.le_of_ble_eq_true rfl) ⟨Nat.le_refl _, Nat.le_refl _⟩ hP hS dX9_days_63) hS (fun H locs hP hS => ?_)
      obtain ⟨x_4, ex_4⟩ : ∃ y : Int32, y = x2 + (1 : Int32) := ⟨_, rfl⟩
      replace h := un_at ex_4 h
      refine lv_iinc (v := x_4) (lv' := [(2, .int x_4), (0, .ref (adG g 0)), (1, .int x1)]) hx hb dX9_days_66 hl (k := 2) rfl (by rw [ex_4]; rfl) (by decide) rfl (fun ls hl => ?_)
      refine lv_goto (tgt := 43) hx hb dX9_days_69 (by decide) ?_
      exact ih q_3 x1 x_4 H locs ls h hP hS (lv_sub hl [1, 2, 0] rfl)

set_option maxRecDepth 100000 in
set_option maxHeartbeats 4000000 in
theorem ctX9_days {l : Launch} {g : Gw} {σ : Sto} (x1 : Int32) {Rz : (Sto × Int32)} (h : fX9_days σ x1 = some Rz) : MtG l yX9_days cX9_days 3 (some .int) 4 wkX g [.ref (adG g 0), .int x1] σ (QiS wkX g Rz.1 Rz.2) := by
  refine mt_of (by decide) (Nat.le_of_ble_eq_true rfl) (fun p e s m below meth c ls H locs C hP hS hl => ?_)
  have C : Cx wkX g p s m _ meth c cX9_days 3 RX9 (some .int) := C
  have hl : lv_has ls 3 [(0, .ref (adG g 0)), (1, .int x1)] := hl
  obtain ⟨hx, hb, hml, hown, hts, hr, hlk, hK, hZ⟩ := id C
  unfold fX9_days at h
  refine lv_aload_n hx hb dX9_days_0 rfl (lv_at hl 0 rfl) ?_
  refine end_i (run_v (As := []) (rest := []) C ca_X9_isStreet (ctX9_isStreet rfl) cf_9 sx_0 kx_0 tw_442 ⟨Nat.le_of_ble_eq_true rfl, Nat.le_of_ble_eq_true rfl⟩ rfl hl.1 (Nat.le_of_ble_eq_true rfl) ⟨Nat.le_refl _, Nat.le_refl _⟩ hP hS dX9_days_1) hS (fun H locs hP hS => ?_)
  refine lv_if_ne (tgt := 10) hx hb dX9_days_4 (by decide) (fun c_ => ?_) (fun c_ => ?_)
  · replace h := if_f c_ h
    refine lv_iload_n hx hb dX9_days_10 rfl (lv_at hl 1 rfl) ?_
    refine lv_iconst (v := 1) hx hb dX9_days_11 (by decide) ?_
    refine lv_bipush (v := 24) hx hb dX9_days_12 (by decide) ?_
    refine end_i (run_s (As := [.int x1, .int (1 : Int32), .int (24 : Int32)]) (rest := []) C ca_X9_within (ctX9_within x1 (1 : Int32) (24 : Int32) rfl) tw_167 ⟨Nat.le_of_ble_eq_true rfl, Nat.le_of_ble_eq_true rfl⟩ rfl hl.1 (Nat.le_of_ble_eq_true rfl) ⟨Nat.le_refl _, Nat.le_refl _⟩ hP hS dX9_days_14) hS (fun H locs hP hS => ?_)
    refine lv_if_ne (tgt := 23) hx hb dX9_days_17 (by decide) (fun c_ => ?_) (fun c_ => ?_)
    · replace h := if_f c_ h
      refine lv_aload_n hx hb dX9_days_23 rfl (lv_at hl 0 rfl) ?_
      refine r_getr C cf_9 hP sx_0 kx_0 2 (by decide) rfl tw_23 dX9_days_24 ?_
      refine r_geti C cf_8 hP (sv_0 iv_36) (kv_0 iv_36) 4 (by decide) rfl tw_441 dX9_days_27 ?_
      refine lv_iload_n hx hb dX9_days_30 rfl (lv_at hl 1 rfl) ?_
      refine lv_iadd hx hb dX9_days_31 ?_
      refine lv_sipush (v := 999) hx hb dX9_days_32 (by decide) ?_
      refine lv_icmp_le (tgt := 41) hx hb dX9_days_35 (by decide) (fun c_ => ?_) (fun c_ => ?_)
      · replace h := if_t c_ h
        refine lv_iconst (v := 0) hx hb dX9_days_41 (by decide) ?_
        refine lv_istore_n (lv' := [(2, .int (0 : Int32)), (0, .ref (adG g 0)), (1, .int x1)]) hx hb dX9_days_42 rfl hl (by decide) rfl (fun ls hl => ?_)
        exact wfX9_days_L43 C fu σ x1 (0 : Int32) H locs ls h hP hS (lv_sub hl [1, 2, 0] rfl)
      · replace h := if_f c_ h
        refine lv_ldc hx hb hown (hts _ tw_271) dX9_days_38 ?_
        exact r_reti C hP hS (rt_ow1 h) (rt_ow2 h) dX9_days_40
    · replace h := if_t c_ h
      refine lv_ldc hx hb hown (hts _ tw_162) dX9_days_20 ?_
      exact r_reti C hP hS (rt_ow1 h) (rt_ow2 h) dX9_days_22
  · replace h := if_t c_ h
    refine lv_ldc hx hb hown (hts _ tw_426) dX9_days_7 ?_
    exact r_reti C hP hS (rt_ow1 h) (rt_ow2 h) dX9_days_9

set_option maxRecDepth 100000 in
set_option maxHeartbeats 4000000 in
theorem ctX9_isRoom {l : Launch} {g : Gw} {σ : Sto} (x1 : Int32) {Rz : Int32} (h : fX9_isRoom σ x1 = Rz) : MtG l yX9_isRoom cX9_isRoom 2 (some .boolean) 0 wkX g [.ref (adG g 0), .int x1] σ (QiS wkX g σ Rz) := by
  refine mt_of (by decide) (Nat.le_of_ble_eq_true rfl) (fun p e s m below meth c ls H locs C hP hS hl => ?_)
  have C : Cx wkX g p s m _ meth c cX9_isRoom 2 RX9 (some .boolean) := C
  have hl : lv_has ls 2 [(0, .ref (adG g 0)), (1, .int x1)] := hl
  obtain ⟨hx, hb, hml, hown, hts, hr, hlk, hK, hZ⟩ := id C
  unfold fX9_isRoom at h
  refine lv_iload_n hx hb dX9_isRoom_0 rfl (lv_at hl 1 rfl) ?_
  refine lv_if_lt (tgt := 19) hx hb dX9_isRoom_1 (by decide) (fun c_ => ?_) (fun c_ => ?_)
  · replace h := if_t c_ h
    refine lv_iconst (v := 0) hx hb dX9_isRoom_19 (by decide) ?_
    exact r_retz C hP hS rfl h rfl dX9_isRoom_20
  · replace h := if_f c_ h
    refine lv_iload_n hx hb dX9_isRoom_4 rfl (lv_at hl 1 rfl) ?_
    refine lv_aload_n hx hb dX9_isRoom_5 rfl (lv_at hl 0 rfl) ?_
    refine r_getr C cf_9 hP sx_0 kx_0 2 (by decide) rfl tw_23 dX9_isRoom_6 ?_
    refine r_geti C cf_8 hP (sv_0 iv_36) (kv_0 iv_36) 0 (by decide) rfl tw_446 dX9_isRoom_9 ?_
    refine lv_icmp_ge (tgt := 19) hx hb dX9_isRoom_12 (by decide) (fun c_ => ?_) (fun c_ => ?_)
    · replace h := if_t c_ h
      refine lv_iconst (v := 0) hx hb dX9_isRoom_19 (by decide) ?_
      exact r_retz C hP hS rfl h rfl dX9_isRoom_20
    · replace h := if_f c_ h
      refine lv_iconst (v := 1) hx hb dX9_isRoom_15 (by decide) ?_
      refine lv_goto (tgt := 20) hx hb dX9_isRoom_16 (by decide) ?_
      exact r_retz C hP hS rfl h rfl dX9_isRoom_20

set_option maxRecDepth 100000 in
set_option maxHeartbeats 4000000 in
theorem ctX9_wall {l : Launch} {g : Gw} {σ : Sto} (x1 : Int32) (x2 : Int32) {Rz : (Sto × Int32)} (h : fX9_wall σ x1 x2 = some Rz) : MtG l yX9_wall cX9_wall 4 (some .int) 4 wkX g [.ref (adG g 0), .int x1, .int x2] σ (QiS wkX g Rz.1 Rz.2) := by
  refine mt_of (by decide) (Nat.le_of_ble_eq_true rfl) (fun p e s m below meth c ls H locs C hP hS hl => ?_)
  have C : Cx wkX g p s m _ meth c cX9_wall 4 RX9 (some .int) := C
  have hl : lv_has ls 4 [(0, .ref (adG g 0)), (1, .int x1), (2, .int x2)] := hl
  obtain ⟨hx, hb, hml, hown, hts, hr, hlk, hK, hZ⟩ := id C
  unfold fX9_wall at h
  refine lv_aload_n hx hb dX9_wall_0 rfl (lv_at hl 0 rfl) ?_
  refine lv_iload_n hx hb dX9_wall_1 rfl (lv_at hl 1 rfl) ?_
  refine end_i (run_v (As := [.int x1]) (rest := []) C ca_X9_isRoom (ctX9_isRoom x1 rfl) cf_9 sx_0 kx_0 tw_516 ⟨Nat.le_of_ble_eq_true rfl, Nat.le_of_ble_eq_true rfl⟩ rfl hl.1 (Nat.le_of_ble_eq_true rfl) ⟨Nat.le_refl _, Nat.le_refl _⟩ hP hS dX9_wall_2) hS (fun H locs hP hS => ?_)
  refine lv_if_eq (tgt := 18) hx hb dX9_wall_5 (by decide) (fun c_ => ?_) (fun c_ => ?_)
  · replace h := if_t c_ h
    refine lv_ldc hx hb hown (hts _ tw_162) dX9_wall_18 ?_
    exact r_reti C hP hS (rt_ow1 h) (rt_ow2 h) dX9_wall_20
  · replace h := if_f c_ h
    refine lv_iload_n hx hb dX9_wall_8 rfl (lv_at hl 2 rfl) ?_
    refine lv_iconst (v := 0) hx hb dX9_wall_9 (by decide) ?_
    refine lv_bipush (v := 9) hx hb dX9_wall_10 (by decide) ?_
    refine end_i (run_s (As := [.int x2, .int (0 : Int32), .int (9 : Int32)]) (rest := []) C ca_X9_within (ctX9_within x2 (0 : Int32) (9 : Int32) rfl) tw_167 ⟨Nat.le_of_ble_eq_true rfl, Nat.le_of_ble_eq_true rfl⟩ rfl hl.1 (Nat.le_of_ble_eq_true rfl) ⟨Nat.le_refl _, Nat.le_refl _⟩ hP hS dX9_wall_12) hS (fun H locs hP hS => ?_)
    refine lv_if_ne (tgt := 21) hx hb dX9_wall_15 (by decide) (fun c_ => ?_) (fun c_ => ?_)
    · replace h := if_f c_ h
      refine lv_aload_n hx hb dX9_wall_21 rfl (lv_at hl 0 rfl) ?_
      refine r_getr C cf_9 hP sx_0 kx_0 2 (by decide) rfl tw_23 dX9_wall_22 ?_
      refine r_getr C cf_8 hP (sv_0 iv_36) (kv_0 iv_36) 7 (by decide) rfl tw_515 dX9_wall_25 ?_
      refine lv_iload_n hx hb dX9_wall_28 rfl (lv_at hl 1 rfl) ?_
      obtain ⟨g_3, h⟩ := gd_inv h
      refine r_iald C hP (sv_3 iv_36) (kv_3 iv_36) rfl g_3 dX9_wall_29 ?_
      refine lv_topi (fun x_4 ex_4 => ?_)
      replace h := un_at ex_4 h
      refine lv_istore_n (lv' := [(3, .int x_4), (0, .ref (adG g 0)), (1, .int x1), (2, .int x2)]) hx hb dX9_wall_30 rfl hl (by decide) rfl (fun ls hl => ?_)
      refine lv_aload_n hx hb dX9_wall_31 rfl (lv_at hl 1 rfl) ?_
      refine r_getr C cf_9 hP sx_0 kx_0 3 (by decide) rfl tw_27 dX9_wall_32 ?_
      refine lv_aload_n hx hb dX9_wall_35 rfl (lv_at hl 1 rfl) ?_
      refine r_getr C cf_9 hP sx_0 kx_0 2 (by decide) rfl tw_23 dX9_wall_36 ?_
      obtain ⟨q_5, hq_5, h⟩ := bd_inv h
      refine end_v (run_v (As := [.ref (adG g 36)]) (rest := []) C ca_X3_keep (ctX3_keep 36 iv_36 hq_5) cf_3 sx_7 kx_7 tw_447 ⟨Nat.le_of_ble_eq_true rfl, Nat.le_of_ble_eq_true rfl⟩ rfl hl.1 (Nat.le_of_ble_eq_true rfl) ⟨Nat.le_refl _, Nat.le_refl _⟩ hP hS dX9_wall_39) hS (fun H locs hP hS => ?_)
      refine lv_aload_n hx hb dX9_wall_42 rfl (lv_at hl 1 rfl) ?_
      refine r_getr C cf_9 hP sx_0 kx_0 2 (by decide) rfl tw_23 dX9_wall_43 ?_
      refine r_getr C cf_8 hP (sv_0 iv_36) (kv_0 iv_36) 7 (by decide) rfl tw_515 dX9_wall_46 ?_
      refine lv_iload_n hx hb dX9_wall_49 rfl (lv_at hl 2 rfl) ?_
      refine lv_iload_n hx hb dX9_wall_50 rfl (lv_at hl 3 rfl) ?_
      refine r_iast C hP hS (sv_3 iv_36) (kv_3 iv_36) rfl g_3 dX9_wall_51 (fun H locs σ_6 eσ_6 hP hS => ?_)
      replace h := un_at eσ_6 h
      refine lv_iload_n hx hb dX9_wall_52 rfl (lv_at hl 0 rfl) ?_
      exact r_reti C hP hS (rt_ow1 h) (rt_ow2 h) dX9_wall_53
    · replace h := if_t c_ h
      refine lv_ldc hx hb hown (hts _ tw_162) dX9_wall_18 ?_
      exact r_reti C hP hS (rt_ow1 h) (rt_ow2 h) dX9_wall_20

set_option maxRecDepth 100000 in
set_option maxHeartbeats 4000000 in
theorem ctX9_isThing {l : Launch} {g : Gw} {σ : Sto} (x1 : Int32) {Rz : Int32} (h : fX9_isThing σ x1 = Rz) : MtG l yX9_isThing cX9_isThing 2 (some .boolean) 0 wkX g [.ref (adG g 0), .int x1] σ (QiS wkX g σ Rz) := by
  refine mt_of (by decide) (Nat.le_of_ble_eq_true rfl) (fun p e s m below meth c ls H locs C hP hS hl => ?_)
  have C : Cx wkX g p s m _ meth c cX9_isThing 2 RX9 (some .boolean) := C
  have hl : lv_has ls 2 [(0, .ref (adG g 0)), (1, .int x1)] := hl
  obtain ⟨hx, hb, hml, hown, hts, hr, hlk, hK, hZ⟩ := id C
  unfold fX9_isThing at h
  refine lv_iload_n hx hb dX9_isThing_0 rfl (lv_at hl 1 rfl) ?_
  refine lv_if_lt (tgt := 19) hx hb dX9_isThing_1 (by decide) (fun c_ => ?_) (fun c_ => ?_)
  · replace h := if_t c_ h
    refine lv_iconst (v := 0) hx hb dX9_isThing_19 (by decide) ?_
    exact r_retz C hP hS rfl h rfl dX9_isThing_20
  · replace h := if_f c_ h
    refine lv_iload_n hx hb dX9_isThing_4 rfl (lv_at hl 1 rfl) ?_
    refine lv_aload_n hx hb dX9_isThing_5 rfl (lv_at hl 0 rfl) ?_
    refine r_getr C cf_9 hP sx_0 kx_0 2 (by decide) rfl tw_23 dX9_isThing_6 ?_
    refine r_geti C cf_8 hP (sv_0 iv_36) (kv_0 iv_36) 1 (by decide) rfl tw_290 dX9_isThing_9 ?_
    refine lv_icmp_ge (tgt := 19) hx hb dX9_isThing_12 (by decide) (fun c_ => ?_) (fun c_ => ?_)
    · replace h := if_t c_ h
      refine lv_iconst (v := 0) hx hb dX9_isThing_19 (by decide) ?_
      exact r_retz C hP hS rfl h rfl dX9_isThing_20
    · replace h := if_f c_ h
      refine lv_iconst (v := 1) hx hb dX9_isThing_15 (by decide) ?_
      refine lv_goto (tgt := 20) hx hb dX9_isThing_16 (by decide) ?_
      exact r_retz C hP hS rfl h rfl dX9_isThing_20

set_option maxRecDepth 100000 in
set_option maxHeartbeats 4000000 in
theorem ctX9_carry {l : Launch} {g : Gw} {σ : Sto} (x1 : Int32) {Rz : (Sto × Int32)} (h : fX9_carry σ x1 = some Rz) : MtG l yX9_carry cX9_carry 2 (some .int) 4 wkX g [.ref (adG g 0), .int x1] σ (QiS wkX g Rz.1 Rz.2) := by
  refine mt_of (by decide) (Nat.le_of_ble_eq_true rfl) (fun p e s m below meth c ls H locs C hP hS hl => ?_)
  have C : Cx wkX g p s m _ meth c cX9_carry 2 RX9 (some .int) := C
  have hl : lv_has ls 2 [(0, .ref (adG g 0)), (1, .int x1)] := hl
  obtain ⟨hx, hb, hml, hown, hts, hr, hlk, hK, hZ⟩ := id C
  unfold fX9_carry at h
  refine lv_aload_n hx hb dX9_carry_0 rfl (lv_at hl 0 rfl) ?_
  refine lv_iload_n hx hb dX9_carry_1 rfl (lv_at hl 1 rfl) ?_
  refine end_i (run_v (As := [.int x1]) (rest := []) C ca_X9_isThing (ctX9_isThing x1 rfl) cf_9 sx_0 kx_0 tw_534 ⟨Nat.le_of_ble_eq_true rfl, Nat.le_of_ble_eq_true rfl⟩ rfl hl.1 (Nat.le_of_ble_eq_true rfl) ⟨Nat.le_refl _, Nat.le_refl _⟩ hP hS dX9_carry_2) hS (fun H locs hP hS => ?_)
  refine lv_if_ne (tgt := 11) hx hb dX9_carry_5 (by decide) (fun c_ => ?_) (fun c_ => ?_)
  · replace h := if_f c_ h
    refine lv_aload_n hx hb dX9_carry_11 rfl (lv_at hl 0 rfl) ?_
    refine r_getr C cf_9 hP sx_0 kx_0 2 (by decide) rfl tw_23 dX9_carry_12 ?_
    refine lv_iload_n hx hb dX9_carry_15 rfl (lv_at hl 1 rfl) ?_
    obtain ⟨q_2, hq_2, h⟩ := bd_inv h
    refine end_i (run_v (As := [.int x1]) (rest := []) C ca_X8_stands (ctX8_stands 36 iv_36 x1 hq_2) cf_8 (sv_0 iv_36) (kv_0 iv_36) tw_538 ⟨Nat.le_of_ble_eq_true rfl, Nat.le_of_ble_eq_true rfl⟩ rfl hl.1 (Nat.le_of_ble_eq_true rfl) ⟨Nat.le_refl _, Nat.le_refl _⟩ hP hS dX9_carry_16) hS (fun H locs hP hS => ?_)
    refine lv_if_ne (tgt := 25) hx hb dX9_carry_19 (by decide) (fun c_ => ?_) (fun c_ => ?_)
    · replace h := if_f c_ h
      refine lv_aload_n hx hb dX9_carry_25 rfl (lv_at hl 0 rfl) ?_
      refine r_getr C cf_9 hP sx_0 kx_0 3 (by decide) rfl tw_27 dX9_carry_26 ?_
      refine lv_aload_n hx hb dX9_carry_29 rfl (lv_at hl 0 rfl) ?_
      refine r_getr C cf_9 hP sx_0 kx_0 2 (by decide) rfl tw_23 dX9_carry_30 ?_
      obtain ⟨q_3, hq_3, h⟩ := bd_inv h
      refine end_v (run_v (As := [.ref (adG g 36)]) (rest := []) C ca_X3_keep (ctX3_keep 36 iv_36 hq_3) cf_3 sx_7 kx_7 tw_447 ⟨Nat.le_of_ble_eq_true rfl, Nat.le_of_ble_eq_true rfl⟩ rfl hl.1 (Nat.le_of_ble_eq_true rfl) ⟨Nat.le_refl _, Nat.le_refl _⟩ hP hS dX9_carry_33) hS (fun H locs hP hS => ?_)
      refine lv_aload_n hx hb dX9_carry_36 rfl (lv_at hl 0 rfl) ?_
      refine r_getr C cf_9 hP sx_0 kx_0 2 (by decide) rfl tw_23 dX9_carry_37 ?_
      refine lv_iload_n hx hb dX9_carry_40 rfl (lv_at hl 1 rfl) ?_
      refine lv_aload_n hx hb dX9_carry_41 rfl (lv_at hl 0 rfl) ?_
      refine r_getr C cf_9 hP sx_0 kx_0 2 (by decide) rfl tw_23 dX9_carry_42 ?_
      refine lv_aload_n hx hb dX9_carry_45 rfl (lv_at hl 0 rfl) ?_
      refine r_getr C cf_9 hP sx_0 kx_0 2 (by decide) rfl tw_23 dX9_carry_46 ?_
      refine r_getr C cf_8 hP (sv_0 iv_36) (kv_0 iv_36) 10 (by decide) rfl tw_533 dX9_carry_49 ?_
      refine lv_iload_n hx hb dX9_carry_52 rfl (lv_at hl 1 rfl) ?_
      obtain ⟨g_4, h⟩ := gd_inv h
      refine r_iald C hP (sv_6 iv_36) (kv_6 iv_36) rfl g_4 dX9_carry_53 ?_
      refine end_i (run_v (As := [.int (q_3 42 x1.toNatClampNeg)]) (rest := [.int x1, .ref (adG g 36)]) C ca_X8_carried (ctX8_carried 36 iv_36 (q_3 42 x1.toNatClampNeg) rfl) cf_8 (sv_0 iv_36) (kv_0 iv_36) tw_542 ⟨Nat.le_of_ble_eq_true rfl, Nat.le_of_ble_eq_true rfl⟩ rfl hl.1 (Nat.le_of_ble_eq_true rfl) ⟨Nat.le_refl _, Nat.le_refl _⟩ hP hS dX9_carry_54) hS (fun H locs hP hS => ?_)
      obtain ⟨q_6, hq_6, h⟩ := bd_inv h
      refine end_v (run_v (As := [.int x1, .int (fX8_carried q_3 36 (q_3 42 x1.toNatClampNeg))]) (rest := []) C ca_X8_place (ctX8_place 36 iv_36 x1 (fX8_carried q_3 36 (q_3 42 x1.toNatClampNeg)) hq_6) cf_8 (sv_0 iv_36) (kv_0 iv_36) tw_546 ⟨Nat.le_of_ble_eq_true rfl, Nat.le_of_ble_eq_true rfl⟩ rfl hl.1 (Nat.le_of_ble_eq_true rfl) ⟨Nat.le_refl _, Nat.le_refl _⟩ hP hS dX9_carry_57) hS (fun H locs hP hS => ?_)
      refine lv_aload_n hx hb dX9_carry_60 rfl (lv_at hl 0 rfl) ?_
      refine r_getr C cf_9 hP sx_0 kx_0 2 (by decide) rfl tw_23 dX9_carry_61 ?_
      refine r_getr C cf_8 hP (sv_0 iv_36) (kv_0 iv_36) 10 (by decide) rfl tw_533 dX9_carry_64 ?_
      refine lv_iload_n hx hb dX9_carry_67 rfl (lv_at hl 1 rfl) ?_
      refine r_iald C hP (sv_6 iv_36) (kv_6 iv_36) rfl g_4 dX9_carry_68 ?_
      exact r_reti C hP hS (rt_ow1 h) (rt_ow2 h) dX9_carry_69
    · replace h := if_t c_ h
      refine lv_ldc hx hb hown (hts _ tw_426) dX9_carry_22 ?_
      exact r_reti C hP hS (rt_ow1 h) (rt_ow2 h) dX9_carry_24
  · replace h := if_t c_ h
    refine lv_ldc hx hb hown (hts _ tw_162) dX9_carry_8 ?_
    exact r_reti C hP hS (rt_ow1 h) (rt_ow2 h) dX9_carry_10

set_option maxRecDepth 100000 in
set_option maxHeartbeats 4000000 in
theorem ctX9_feeding {l : Launch} {g : Gw} {σ : Sto} (x1 : Int32) {Rz : (Sto × Int32)} (h : fX9_feeding σ x1 = some Rz) : MtG l yX9_feeding cX9_feeding 3 (some .int) 4 wkX g [.ref (adG g 0), .int x1] σ (QiS wkX g Rz.1 Rz.2) := by
  refine mt_of (by decide) (Nat.le_of_ble_eq_true rfl) (fun p e s m below meth c ls H locs C hP hS hl => ?_)
  have C : Cx wkX g p s m _ meth c cX9_feeding 3 RX9 (some .int) := C
  have hl : lv_has ls 3 [(0, .ref (adG g 0)), (1, .int x1)] := hl
  obtain ⟨hx, hb, hml, hown, hts, hr, hlk, hK, hZ⟩ := id C
  unfold fX9_feeding at h
  refine lv_aload_n hx hb dX9_feeding_0 rfl (lv_at hl 0 rfl) ?_
  refine end_i (run_v (As := []) (rest := []) C ca_X9_isStreet (ctX9_isStreet rfl) cf_9 sx_0 kx_0 tw_442 ⟨Nat.le_of_ble_eq_true rfl, Nat.le_of_ble_eq_true rfl⟩ rfl hl.1 (Nat.le_of_ble_eq_true rfl) ⟨Nat.le_refl _, Nat.le_refl _⟩ hP hS dX9_feeding_1) hS (fun H locs hP hS => ?_)
  refine lv_if_ne (tgt := 10) hx hb dX9_feeding_4 (by decide) (fun c_ => ?_) (fun c_ => ?_)
  · replace h := if_f c_ h
    refine lv_iload_n hx hb dX9_feeding_10 rfl (lv_at hl 1 rfl) ?_
    refine lv_iconst (v := 0) hx hb dX9_feeding_11 (by decide) ?_
    refine lv_bipush (v := 20) hx hb dX9_feeding_12 (by decide) ?_
    refine end_i (run_s (As := [.int x1, .int (0 : Int32), .int (20 : Int32)]) (rest := []) C ca_X9_within (ctX9_within x1 (0 : Int32) (20 : Int32) rfl) tw_167 ⟨Nat.le_of_ble_eq_true rfl, Nat.le_of_ble_eq_true rfl⟩ rfl hl.1 (Nat.le_of_ble_eq_true rfl) ⟨Nat.le_refl _, Nat.le_refl _⟩ hP hS dX9_feeding_14) hS (fun H locs hP hS => ?_)
    refine lv_if_ne (tgt := 23) hx hb dX9_feeding_17 (by decide) (fun c_ => ?_) (fun c_ => ?_)
    · replace h := if_f c_ h
      refine lv_aload_n hx hb dX9_feeding_23 rfl (lv_at hl 0 rfl) ?_
      refine r_getr C cf_9 hP sx_0 kx_0 2 (by decide) rfl tw_23 dX9_feeding_24 ?_
      refine r_geti C cf_8 hP (sv_0 iv_36) (kv_0 iv_36) 2 (by decide) rfl tw_562 dX9_feeding_27 ?_
      refine lv_topi (fun x_3 ex_3 => ?_)
      replace h := un_at ex_3 h
      refine lv_istore_n (lv' := [(2, .int x_3), (0, .ref (adG g 0)), (1, .int x1)]) hx hb dX9_feeding_30 rfl hl (by decide) rfl (fun ls hl => ?_)
      refine lv_aload_n hx hb dX9_feeding_31 rfl (lv_at hl 1 rfl) ?_
      refine r_getr C cf_9 hP sx_0 kx_0 3 (by decide) rfl tw_27 dX9_feeding_32 ?_
      refine lv_aload_n hx hb dX9_feeding_35 rfl (lv_at hl 1 rfl) ?_
      refine r_getr C cf_9 hP sx_0 kx_0 2 (by decide) rfl tw_23 dX9_feeding_36 ?_
      obtain ⟨q_4, hq_4, h⟩ := bd_inv h
      refine end_v (run_v (As := [.ref (adG g 36)]) (rest := []) C ca_X3_keep (ctX3_keep 36 iv_36 hq_4) cf_3 sx_7 kx_7 tw_447 ⟨Nat.le_of_ble_eq_true rfl, Nat.le_of_ble_eq_true rfl⟩ rfl hl.1 (Nat.le_of_ble_eq_true rfl) ⟨Nat.le_refl _, Nat.le_refl _⟩ hP hS dX9_feeding_39) hS (fun H locs hP hS => ?_)
      refine lv_aload_n hx hb dX9_feeding_42 rfl (lv_at hl 1 rfl) ?_
      refine r_getr C cf_9 hP sx_0 kx_0 2 (by decide) rfl tw_23 dX9_feeding_43 ?_
      refine lv_iload_n hx hb dX9_feeding_46 rfl (lv_at hl 2 rfl) ?_
      refine r_puti C cf_8 hP hS (sv_0 iv_36) (kv_0 iv_36) 2 (by decide) rfl rfl rfl tw_562 dX9_feeding_47 (fun H locs σ_5 eσ_5 hP hS => ?_)
      replace h := un_at eσ_5 h
      refine lv_iload_n hx hb dX9_feeding_50 rfl (lv_at hl 0 rfl) ?_
      exact r_reti C hP hS (rt_ow1 h) (rt_ow2 h) dX9_feeding_51
    · replace h := if_t c_ h
      refine lv_ldc hx hb hown (hts _ tw_162) dX9_feeding_20 ?_
      exact r_reti C hP hS (rt_ow1 h) (rt_ow2 h) dX9_feeding_22
  · replace h := if_t c_ h
    refine lv_ldc hx hb hown (hts _ tw_426) dX9_feeding_7 ?_
    exact r_reti C hP hS (rt_ow1 h) (rt_ow2 h) dX9_feeding_9
