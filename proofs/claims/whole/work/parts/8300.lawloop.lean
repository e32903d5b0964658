set_option maxRecDepth 100000 in
set_option maxHeartbeats 8000000 in
theorem law_loop {p : Program} {l : Launch} {e : Env} {s : State} {m : MethodId} {below : List Frame} {meth : Method} {c : Code} {gX gM : Gw} {b L : Nat} {xs : Nat → Int32} (hL : L ≤ 3072) (hX : va_X b L xs s s.heap) (hbl : b < s.heap.size) (hret : meth.sig.returnType = ret) (CX : Cx wkX gX p s m #[Value.ref b] meth c cL_law 4 RL ret) (CM : Cx wkM gM p s m #[Value.ref b] meth c cL_law 4 RL ret) (hAX : ∀ q, AS wkX gX q → s.heap.size ≤ q) (hAM : ∀ q, AS wkM gM q → s.heap.size ≤ q) (hd1 : ∀ q, AS wkX gX q → ¬ AS wkM gM q) (hd2 : ∀ q, AS wkM gM q → ¬ AS wkX gX q) : ∀ (n t : Nat), 513 ≤ t + n → 6 * t ≤ 3078 → ∀ (σx σm : Sto) (H : Heap) (locs : List Loc) (ls : Array Slot), Inv σx σm → wS wkX gX σx H → wS wkM gM σm H → va_S (bA s.heap.size) s.heap H locs → lv_has ls 4 [(0, .ref b), (1, .ref (adG gX 0)), (2, .ref (adG gM 0)), (3, .int (nI (6 * t)))] → W p l e room_1 s m #[Value.ref b] below meth c H locs 291 6240 (lw_Z below #[Value.ref b] s) (F0 m 18 ls []) := by
  obtain ⟨hx, hb, hml, hown, hts, hr, hlk, hK, hZ⟩ := id CX
  have hbA : ¬ bA s.heap.size b := Nat.not_le.mpr hbl
  intro n
  induction n with
  | zero =>
    intro t h1 h2 σx σm H locs ls hI hP hP2 hS hl
    refine lv_iload_n hx hb dL_law_18 rfl (lv_at hl 3 rfl) ?_
    refine lv_aload_n hx hb dL_law_19 rfl (lv_at hl 0 rfl) ?_
    refine va_slen hx hb hX hbl hbA hS dL_law_20 ?_
    refine lv_bipush (v := 6) hx hb dL_law_21 (by decide) ?_
    refine lv_isub hx hb dL_law_23 ?_
    refine lv_icmp_gt (tgt := 1485) hx hb dL_law_24 (by decide) (fun c_ => ?_) (fun c_ => absurd ?_ c_)
    · refine lv_iconst (v := 1) hx hb dL_law_1485 (by decide) ?_
      refine va_forget (fun q hq => hS.2.2 q hq) ?_
      refine W.widen (k := 600000) (n := 7302250) (Nat.le_of_ble_eq_true rfl) (Nat.le_of_ble_eq_true rfl) ?_
      exact lw_ret hx hb hret hlk dL_law_1486
    · rw [Int32.lt_iff_toInt_lt, show (6 : Int32) = nI 6 from rfl, nI_toInt (show 6 * t < 2 ^ 31 by omega)]
      have : (nI L - nI 6).toInt = (L : Int) - 6 := pk_sub_toInt (by omega) (by decide)
      show (nI L - nI 6).toInt < _
      rw [this]
      omega
  | succ n ih =>
    intro t h1 h2 σx σm H locs ls hI hP hP2 hS hl
    refine lv_iload_n hx hb dL_law_18 rfl (lv_at hl 3 rfl) ?_
    refine lv_aload_n hx hb dL_law_19 rfl (lv_at hl 0 rfl) ?_
    refine va_slen hx hb hX hbl hbA hS dL_law_20 ?_
    refine lv_bipush (v := 6) hx hb dL_law_21 (by decide) ?_
    refine lv_isub hx hb dL_law_23 ?_
    refine lv_icmp_gt (tgt := 1485) hx hb dL_law_24 (by decide) (fun c_ => ?_) (fun c_ => ?_)
    · refine lv_iconst (v := 1) hx hb dL_law_1485 (by decide) ?_
      refine va_forget (fun q hq => hS.2.2 q hq) ?_
      refine W.widen (k := 600000) (n := 7302250) (Nat.le_of_ble_eq_true rfl) (Nat.le_of_ble_eq_true rfl) ?_
      exact lw_ret hx hb hret hlk dL_law_1486
    · have ht : 6 * t + 6 ≤ L := by
        rw [Int32.lt_iff_toInt_lt, show (6 : Int32) = nI 6 from rfl, nI_toInt (show 6 * t < 2 ^ 31 by omega)] at c_
        have : (nI L - nI 6).toInt = (L : Int) - 6 := pk_sub_toInt (by omega) (by decide)
        have c2 : ¬ (nI L - nI 6).toInt < ((6 * t : Nat) : Int) := c_
        rw [this] at c2
        omega
      have hi0 : vp_in (nI (6 * t)) L := vp_in_nI (by omega) (by omega)
      have hk : ∀ (σx σm : Sto) (H : Heap) (locs : List Loc) (ls : Array Slot), Inv σx σm → wS wkX gX σx H → wS wkM gM σm H → va_S (bA s.heap.size) s.heap H locs → lv_has ls 4 [(0, .ref b), (1, .ref (adG gX 0)), (2, .ref (adG gM 0)), (3, .int (nI (6 * t)))] → W p l e room_1 s m #[Value.ref b] below meth c H locs 291 6240 (lw_Z below #[Value.ref b] s) (F0 m 1479 ls []) := by
        intro σx σm H locs ls hI hP hP2 hS hl
        refine lv_iinc (v := nI (6 * (t + 1))) (lv' := [(3, .int (nI (6 * (t + 1)))), (0, .ref b), (1, .ref (adG gX 0)), (2, .ref (adG gM 0))]) hx hb dL_law_1479 hl (k := 3) rfl (by rw [show Int32.ofInt 6 = nI 6 from rfl, nI_add]; rfl) (by decide) rfl (fun ls hl => ?_)
        refine lv_goto (tgt := 18) hx hb dL_law_1482 (by decide) ?_
        exact ih (t + 1) (by omega) (by omega) σx σm H locs ls hI hP hP2 hS (lv_sub hl [1, 2, 3, 0] rfl)
      refine lv_aload_n hx hb dL_law_27 rfl (lv_at hl 0 rfl) ?_
      refine lv_iload_n hx hb dL_law_28 rfl (lv_at hl 3 rfl) ?_
      refine va_sld hx hb hX hbl hbA hS hi0 dL_law_29 ?_
      refine lv_bipush (v := 63) hx hb dL_law_30 (by decide) ?_
      refine lv_iand hx hb dL_law_32 ?_
      generalize (xs (nI (6 * t)).toNatClampNeg &&& (63 : Int32)) = y
      by_cases c_0 : y = (0 : Int32)
      · refine r_tin (tgt := 208) hx hb dL_law_33 c_0 (by decide) (by decide) rfl (by decide) ?_
        exact lc_row hL ht hX hbl CX CM hAX hAM hd1 hd2 hI hP hP2 hS hl hk
      by_cases c_1 : y = (1 : Int32)
      · refine r_tin (tgt := 251) hx hb dL_law_33 c_1 (by decide) (by decide) rfl (by decide) ?_
        exact lc_set hL ht hX hbl CX CM hAX hAM hd1 hd2 hI hP hP2 hS hl hk
      by_cases c_2 : y = (2 : Int32)
      · refine r_tin (tgt := 294) hx hb dL_law_33 c_2 (by decide) (by decide) rfl (by decide) ?_
        exact lc_copy hL ht hX hbl CX CM hAX hAM hd1 hd2 hI hP hP2 hS hl hk
      by_cases c_3 : y = (3 : Int32)
      · refine r_tin (tgt := 357) hx hb dL_law_33 c_3 (by decide) (by decide) rfl (by decide) ?_
        exact lc_drop hL ht hX hbl CX CM hAX hAM hd1 hd2 hI hP hP2 hS hl hk
      by_cases c_4 : y = (4 : Int32)
      · refine r_tin (tgt := 380) hx hb dL_law_33 c_4 (by decide) (by decide) rfl (by decide) ?_
        exact lc_feed hL ht hX hbl CX CM hAX hAM hd1 hd2 hI hP hP2 hS hl hk
      by_cases c_5 : y = (5 : Int32)
      · refine r_tin (tgt := 403) hx hb dL_law_33 c_5 (by decide) (by decide) rfl (by decide) ?_
        exact lc_street hL ht hX hbl CX CM hAX hAM hd1 hd2 hI hP hP2 hS hl hk
      by_cases c_6 : y = (6 : Int32)
      · refine r_tin (tgt := 416) hx hb dL_law_33 c_6 (by decide) (by decide) rfl (by decide) ?_
        exact lc_fault hL ht hX hbl CX CM hAX hAM hd1 hd2 hI hP hP2 hS hl hk
      by_cases c_7 : y = (7 : Int32)
      · refine r_tin (tgt := 429) hx hb dL_law_33 c_7 (by decide) (by decide) rfl (by decide) ?_
        exact lc_undo hL ht hX hbl CX CM hAX hAM hd1 hd2 hI hP hP2 hS hl hk
      by_cases c_8 : y = (8 : Int32)
      · refine r_tin (tgt := 442) hx hb dL_law_33 c_8 (by decide) (by decide) rfl (by decide) ?_
        exact lc_days hL ht hX hbl CX CM hAX hAM hd1 hd2 hI hP hP2 hS hl hk
      by_cases c_9 : y = (9 : Int32)
      · refine r_tin (tgt := 465) hx hb dL_law_33 c_9 (by decide) (by decide) rfl (by decide) ?_
        exact lc_wall hL ht hX hbl CX CM hAX hAM hd1 hd2 hI hP hP2 hS hl hk
      by_cases c_10 : y = (10 : Int32)
      · refine r_tin (tgt := 498) hx hb dL_law_33 c_10 (by decide) (by decide) rfl (by decide) ?_
        exact lc_carry hL ht hX hbl CX CM hAX hAM hd1 hd2 hI hP hP2 hS hl hk
      by_cases c_11 : y = (11 : Int32)
      · refine r_tin (tgt := 521) hx hb dL_law_33 c_11 (by decide) (by decide) rfl (by decide) ?_
        exact lc_feeding hL ht hX hbl CX CM hAX hAM hd1 hd2 hI hP hP2 hS hl hk
      by_cases c_12 : y = (12 : Int32)
      · refine r_tin (tgt := 544) hx hb dL_law_33 c_12 (by decide) (by decide) rfl (by decide) ?_
        exact lc_dig hL ht hX hbl CX CM hAX hAM hd1 hd2 hI hP hP2 hS hl hk
      by_cases c_13 : y = (13 : Int32)
      · refine r_tin (tgt := 567) hx hb dL_law_33 c_13 (by decide) (by decide) rfl (by decide) ?_
        exact lc_thing hL ht hX hbl CX CM hAX hAM hd1 hd2 hI hP hP2 hS hl hk
      by_cases c_14 : y = (14 : Int32)
      · refine r_tin (tgt := 600) hx hb dL_law_33 c_14 (by decide) (by decide) rfl (by decide) ?_
        exact lc_roomOf hL ht hX hbl CX CM hAX hAM hd1 hd2 hI hP hP2 hS hl hk
      by_cases c_15 : y = (15 : Int32)
      · refine r_tin (tgt := 633) hx hb dL_law_33 c_15 (by decide) (by decide) rfl (by decide) ?_
        exact lc_stand hL ht hX hbl CX CM hAX hAM hd1 hd2 hI hP hP2 hS hl hk
      by_cases c_16 : y = (16 : Int32)
      · refine r_tin (tgt := 656) hx hb dL_law_33 c_16 (by decide) (by decide) rfl (by decide) ?_
        exact lc_ahead hL ht hX hbl CX CM hAX hAM hd1 hd2 hI hP hP2 hS hl hk
      by_cases c_17 : y = (17 : Int32)
      · refine r_tin (tgt := 689) hx hb dL_law_33 c_17 (by decide) (by decide) rfl (by decide) ?_
        exact lc_lava hL ht hX hbl CX CM hAX hAM hd1 hd2 hI hP hP2 hS hl hk
      by_cases c_18 : y = (18 : Int32)
      · refine r_tin (tgt := 722) hx hb dL_law_33 c_18 (by decide) (by decide) rfl (by decide) ?_
        exact lc_kept hL ht hX hbl CX CM hAX hAM hd1 hd2 hI hP hP2 hS hl hk
      by_cases c_19 : y = (19 : Int32)
      · refine r_tin (tgt := 755) hx hb dL_law_33 c_19 (by decide) (by decide) rfl (by decide) ?_
        exact lc_when hL ht hX hbl CX CM hAX hAM hd1 hd2 hI hP hP2 hS hl hk
      by_cases c_20 : y = (20 : Int32)
      · refine r_tin (tgt := 788) hx hb dL_law_33 c_20 (by decide) (by decide) rfl (by decide) ?_
        exact lc_front hL ht hX hbl CX CM hAX hAM hd1 hd2 hI hP hP2 hS hl hk
      by_cases c_21 : y = (21 : Int32)
      · refine r_tin (tgt := 811) hx hb dL_law_33 c_21 (by decide) (by decide) rfl (by decide) ?_
        exact lc_carries hL ht hX hbl CX CM hAX hAM hd1 hd2 hI hP hP2 hS hl hk
      by_cases c_22 : y = (22 : Int32)
      · refine r_tin (tgt := 854) hx hb dL_law_33 c_22 (by decide) (by decide) rfl (by decide) ?_
        exact lc_dam hL ht hX hbl CX CM hAX hAM hd1 hd2 hI hP hP2 hS hl hk
      by_cases c_23 : y = (23 : Int32)
      · refine r_tin (tgt := 897) hx hb dL_law_33 c_23 (by decide) (by decide) rfl (by decide) ?_
        exact lc_hold hL ht hX hbl CX CM hAX hAM hd1 hd2 hI hP hP2 hS hl hk
      by_cases c_24 : y = (24 : Int32)
      · refine r_tin (tgt := 940) hx hb dL_law_33 c_24 (by decide) (by decide) rfl (by decide) ?_
        exact lc_spare hL ht hX hbl CX CM hAX hAM hd1 hd2 hI hP hP2 hS hl hk
      by_cases c_25 : y = (25 : Int32)
      · refine r_tin (tgt := 963) hx hb dL_law_33 c_25 (by decide) (by decide) rfl (by decide) ?_
        exact lc_sets hL ht hX hbl CX CM hAX hAM hd1 hd2 hI hP hP2 hS hl hk
      by_cases c_26 : y = (26 : Int32)
      · refine r_tin (tgt := 996) hx hb dL_law_33 c_26 (by decide) (by decide) rfl (by decide) ?_
        exact lc_share hL ht hX hbl CX CM hAX hAM hd1 hd2 hI hP hP2 hS hl hk
      by_cases c_27 : y = (27 : Int32)
      · refine r_tin (tgt := 1029) hx hb dL_law_33 c_27 (by decide) (by decide) rfl (by decide) ?_
        exact lc_byTurns hL ht hX hbl CX CM hAX hAM hd1 hd2 hI hP hP2 hS hl hk
      by_cases c_28 : y = (28 : Int32)
      · refine r_tin (tgt := 1062) hx hb dL_law_33 c_28 (by decide) (by decide) rfl (by decide) ?_
        exact lc_who hL ht hX hbl CX CM hAX hAM hd1 hd2 hI hP hP2 hS hl hk
      by_cases c_29 : y = (29 : Int32)
      · refine r_tin (tgt := 1125) hx hb dL_law_33 c_29 (by decide) (by decide) rfl (by decide) ?_
        exact lc_feeds hL ht hX hbl CX CM hAX hAM hd1 hd2 hI hP hP2 hS hl hk
      by_cases c_30 : y = (30 : Int32)
      · refine r_tin (tgt := 1188) hx hb dL_law_33 c_30 (by decide) (by decide) rfl (by decide) ?_
        exact lc_gives hL ht hX hbl CX CM hAX hAM hd1 hd2 hI hP hP2 hS hl hk
      by_cases c_31 : y = (31 : Int32)
      · refine r_tin (tgt := 1242) hx hb dL_law_33 c_31 (by decide) (by decide) rfl (by decide) ?_
        exact lc_drawn hL ht hX hbl CX CM hAX hAM hd1 hd2 hI hP hP2 hS hl hk
      by_cases c_32 : y = (32 : Int32)
      · refine r_tin (tgt := 1285) hx hb dL_law_33 c_32 (by decide) (by decide) rfl (by decide) ?_
        exact lc_image hL ht hX hbl CX CM hAX hAM hd1 hd2 hI hP hP2 hS hl hk
      by_cases c_33 : y = (33 : Int32)
      · refine r_tin (tgt := 1308) hx hb dL_law_33 c_33 (by decide) (by decide) rfl (by decide) ?_
        exact lc_restore hL ht hX hbl CX CM hAX hAM hd1 hd2 hI hP hP2 hS hl hk
      by_cases c_34 : y = (34 : Int32)
      · refine r_tin (tgt := 1331) hx hb dL_law_33 c_34 (by decide) (by decide) rfl (by decide) ?_
        exact lc_kind hL ht hX hbl CX CM hAX hAM hd1 hd2 hI hP hP2 hS hl hk
      by_cases c_35 : y = (35 : Int32)
      · refine r_tin (tgt := 1354) hx hb dL_law_33 c_35 (by decide) (by decide) rfl (by decide) ?_
        exact lc_as hL ht hX hbl CX CM hAX hAM hd1 hd2 hI hP hP2 hS hl hk
      by_cases c_36 : y = (36 : Int32)
      · refine r_tin (tgt := 1387) hx hb dL_law_33 c_36 (by decide) (by decide) rfl (by decide) ?_
        exact lc_ask hL ht hX hbl CX CM hAX hAM hd1 hd2 hI hP hP2 hS hl hk
      by_cases c_37 : y = (37 : Int32)
      · refine r_tin (tgt := 1420) hx hb dL_law_33 c_37 (by decide) (by decide) rfl (by decide) ?_
        exact lc_trace hL ht hX hbl CX CM hAX hAM hd1 hd2 hI hP hP2 hS hl hk
      by_cases c_38 : y = (38 : Int32)
      · refine r_tin (tgt := 1443) hx hb dL_law_33 c_38 (by decide) (by decide) rfl (by decide) ?_
        exact lc_count hL ht hX hbl CX CM hAX hAM hd1 hd2 hI hP hP2 hS hl hk
      by_cases c_39 : y = (39 : Int32)
      · refine r_tin (tgt := 1466) hx hb dL_law_33 c_39 (by decide) (by decide) rfl (by decide) ?_
        exact lc_status hL ht hX hbl CX CM hAX hAM hd1 hd2 hI hP hP2 hS hl hk
      refine lv_tableOut (tgt := 1479) hx hb dL_law_33 (by have q_0 := lv_neT (a := 0) c_0 rfl; have q_1 := lv_neT (a := 1) c_1 rfl; have q_2 := lv_neT (a := 2) c_2 rfl; have q_3 := lv_neT (a := 3) c_3 rfl; have q_4 := lv_neT (a := 4) c_4 rfl; have q_5 := lv_neT (a := 5) c_5 rfl; have q_6 := lv_neT (a := 6) c_6 rfl; have q_7 := lv_neT (a := 7) c_7 rfl; have q_8 := lv_neT (a := 8) c_8 rfl; have q_9 := lv_neT (a := 9) c_9 rfl; have q_10 := lv_neT (a := 10) c_10 rfl; have q_11 := lv_neT (a := 11) c_11 rfl; have q_12 := lv_neT (a := 12) c_12 rfl; have q_13 := lv_neT (a := 13) c_13 rfl; have q_14 := lv_neT (a := 14) c_14 rfl; have q_15 := lv_neT (a := 15) c_15 rfl; have q_16 := lv_neT (a := 16) c_16 rfl; have q_17 := lv_neT (a := 17) c_17 rfl; have q_18 := lv_neT (a := 18) c_18 rfl; have q_19 := lv_neT (a := 19) c_19 rfl; have q_20 := lv_neT (a := 20) c_20 rfl; have q_21 := lv_neT (a := 21) c_21 rfl; have q_22 := lv_neT (a := 22) c_22 rfl; have q_23 := lv_neT (a := 23) c_23 rfl; have q_24 := lv_neT (a := 24) c_24 rfl; have q_25 := lv_neT (a := 25) c_25 rfl; have q_26 := lv_neT (a := 26) c_26 rfl; have q_27 := lv_neT (a := 27) c_27 rfl; have q_28 := lv_neT (a := 28) c_28 rfl; have q_29 := lv_neT (a := 29) c_29 rfl; have q_30 := lv_neT (a := 30) c_30 rfl; have q_31 := lv_neT (a := 31) c_31 rfl; have q_32 := lv_neT (a := 32) c_32 rfl; have q_33 := lv_neT (a := 33) c_33 rfl; have q_34 := lv_neT (a := 34) c_34 rfl; have q_35 := lv_neT (a := 35) c_35 rfl; have q_36 := lv_neT (a := 36) c_36 rfl; have q_37 := lv_neT (a := 37) c_37 rfl; have q_38 := lv_neT (a := 38) c_38 rfl; have q_39 := lv_neT (a := 39) c_39 rfl; omega) (by decide) ?_
      exact hk σx σm H locs ls hI hP hP2 hS hl
