def ringC (g : Gw) (b n j : Nat) : va_E := .inl (g.2.1 2, 24, .inr (.inr (.inr (.inr (fun i => if i < j then some (b + (n + (1 + 8 * i))) else none)))))
def vilsL (g : Gw) (b n j : Nat) : List va_E := (List.range j).flatMap (fun i => kO_X8_init b (n + (1 + 8 * i) + 1) :: kT_X8_init g b (n + (1 + 8 * i) + 1))
theorem vils_succ (g : Gw) (b n j : Nat) : vilsL g b n (j + 1) = vilsL g b n j ++ kO_X8_init b (n + (1 + 8 * j) + 1) :: kT_X8_init g b (n + (1 + 8 * j) + 1) := by
  unfold vilsL
  rw [List.range_succ, List.flatMap_append, List.flatMap_singleton]
theorem vils_len (g : Gw) (b n : Nat) : ∀ j, (vilsL g b n j).length = 8 * j
  | 0 => rfl
  | j + 1 => by
    rw [vils_succ, List.length_append, vils_len g b n j]
    show 8 * j + 8 = _
    omega
def kO_X3_init (b n : Nat) : va_E := .inr (3, [.int 0, .int 0, .ref (b + (n + 0))])
def kT_X3_init (g : Gw) (b n : Nat) : List va_E := ringC g b n 24 :: vilsL g b n 24
theorem kT_X3_init_len (g : Gw) (b n : Nat) : (kT_X3_init g b n).length = 193 := by
  unfold kT_X3_init
  rw [List.length_cons, vils_len]
theorem ring_up (g : Gw) (b n j : Nat) : va_up (fun i => if i < j then some (b + (n + (1 + 8 * i))) else none) j (some (b + (n + (1 + 8 * j)))) = (fun i => if i < j + 1 then some (b + (n + (1 + 8 * i))) else (none : Option Nat)) := by
  funext i
  simp only [va_up]
  by_cases h : i = j
  · subst h
    rw [if_pos rfl, if_pos (Nat.lt_succ_self _)]
  · rw [if_neg h]
    by_cases h2 : i < j
    · rw [if_pos h2, if_pos (by omega)]
    · rw [if_neg h2, if_neg (by omega)]
theorem ca_X3_init : CaI yX3_init cX3_init 2 0 := ⟨tw_81, tw_26, tw_82, rfl, by decide, by decide, by decide +kernel⟩
set_option maxRecDepth 100000 in
set_option maxHeartbeats 4000000 in
theorem kl_X3_init {l : Launch} {g : Gw} {b n h : Nat} {cw : Nat → va_E} {p : Program} {e : Env} {s : State} {m : MethodId} {args : Array Value} {below : List Frame} {meth : Method} {c : Code} (C : Cc g p s m args meth c cX3_init 2 RX3) (hh : h < n) : ∀ (q j : Nat), j + q = 24 → ∀ (H : Heap) (locs : List Loc) (ls : Array Slot), pS g b (n + (1 + 8 * j)) (nfS cw n h (kO_X3_init b n) (ringC g b n j :: vilsL g b n j)) H → va_S (bA b) s.heap H locs → lv_has ls 2 [(0, .ref (b + h)), (1, .int (nI j))] → W p l e (rmC 4 193 1608) s m args below meth c H locs (1 + 8 * j) (24 + 66 * j) (MQ below (QvC b (pS g b (n + 193) (nfS cw n h (kO_X3_init b n) (kT_X3_init g b n)))) args s 193 1608 (bA b)) (F0 m 25 ls []) := by
  intro q
  obtain ⟨hx, hb, hml, hown, hts, hr, hlk, hK, hNc, hin⟩ := id C
  induction q with
  | zero =>
    intro j hj H locs ls hP hS hl
    have hj : j = 24 := by omega
    subst hj
    refine lv_iload_n hx hb dX3_init_25 rfl (lv_at hl 1 rfl) ?_
    refine lv_bipush (v := 24) hx hb dX3_init_26 (by decide) ?_
    refine lv_icmp_ge (tgt := 50) hx hb dX3_init_28 (by decide) (fun _ => ?_) (fun c_ => absurd (by decide) c_)
    exact k_ret C hP hS dX3_init_50
  | succ q ih =>
    intro j hj H locs ls hP hS hl
    have hlt : j < 24 := by omega
    refine lv_iload_n hx hb dX3_init_25 rfl (lv_at hl 1 rfl) ?_
    refine lv_bipush (v := 24) hx hb dX3_init_26 (by decide) ?_
    refine lv_icmp_ge (tgt := 50) hx hb dX3_init_28 (by decide) (fun c_ => absurd c_ (nI_ge (a := j) (b := 24) hlt (by decide))) (fun _ => ?_)
    refine lv_aload_n hx hb dX3_init_31 rfl (lv_at hl 0 rfl) ?_
    refine k_get C cf_3 hP (show h < n + (1 + 8 * j) by omega) nf_self 2 (by decide) rfl tw_87 dX3_init_32 ?_
    refine lv_iload_n hx hb dX3_init_35 rfl (lv_at hl 1 rfl) ?_
    refine k_new C cf_8 tw_86 tw_21 tw_22 hP hS (fs := [.int 0, .int 0, .int 0, .int 0, .int 0, .null, .null, .null, .null, .null, .null, .null]) df_8 (show 1 + 8 * j + 1 ≤ 193 by omega) (show 24 + 66 * j + 12 ≤ 1608 by omega) dX3_init_36 (fun H hP hS => ?_)
    refine lv_dup hx hb dX3_init_39 rfl ?_
    refine k_callN (As := []) (rest := [.ref (b + (n + (1 + 8 * j))), .int (nI j), .ref (b + (n + 0))]) C ca_X8_init 6 rfl (kc_X8_init (n + (1 + 8 * j) + 1) (n + (1 + 8 * j)) (va_up (nfS cw n h (kO_X3_init b n) (ringC g b n j :: vilsL g b n j)) (n + (1 + 8 * j)) (.inr (8, [.int 0, .int 0, .int 0, .int 0, .int 0, .null, .null, .null, .null, .null, .null, .null]))) (by omega) (by simp [va_up])) hP hS rfl hl.1 (Nat.le_of_ble_eq_true rfl) ⟨Nat.le_of_ble_eq_true rfl, Nat.le_of_ble_eq_true rfl⟩ ⟨show 1 + 8 * j + 1 + 7 ≤ 193 by omega, show 24 + 66 * j + 12 + 54 ≤ 1608 by omega⟩ dX3_init_40 (fun H locs hP hS => ?_)
    have hlen : (ringC g b n j :: vilsL g b n j).length = 1 + 8 * j := by rw [List.length_cons, vils_len]; omega
    have hP : pS g b (n + (1 + 8 * j + 1 + 7)) (nfS cw n h (kO_X3_init b n) ((ringC g b n j :: vilsL g b n j) ++ kO_X8_init b (n + (1 + 8 * j) + 1) :: kT_X8_init g b (n + (1 + 8 * j) + 1))) H := pS_congr (n := n + (1 + 8 * j + 1 + 7)) (by rw [show n + (1 + 8 * j + 1 + 7) = n + (1 + 8 * j) + 1 + 7 by omega]; exact hP) (nf_nest (N := 1 + 8 * j) (N' := 7) hh hlen rfl)
    rw [List.cons_append, ← vils_succ] at hP
    have hlen2 : (ringC g b n j :: vilsL g b n (j + 1)).length = 1 + 8 * j + 1 + 7 := by rw [List.length_cons, vils_len]; omega
    have hat : nfS cw n h (kO_X3_init b n) (ringC g b n j :: vilsL g b n (j + 1)) (n + (1 + 8 * j)) = kO_X8_init b (n + (1 + 8 * j) + 1) := by
      refine nf_at hh ?_
      rw [vils_succ, Nat.add_comm 1, List.getElem?_cons_succ, List.getElem?_append_right (by rw [vils_len]; omega), vils_len, Nat.sub_self]
      rfl
    have hat0 : nfS cw n h (kO_X3_init b n) (ringC g b n j :: vilsL g b n (j + 1)) (n + 0) = ringC g b n j := nf_at hh rfl
    refine k_aast C hP hS (k := n + 0) (by omega) hat0 (j := n + (1 + 8 * j)) (by omega) hat (vp_in_nI hlt (by decide)) dX3_init_43 (fun H locs hP hS => ?_)
    rw [nI_clamp (show j < 2 ^ 31 by omega), ring_up g b n j] at hP
    have hP : pS g b (n + (1 + 8 * (j + 1))) (nfS cw n h (kO_X3_init b n) (ringC g b n (j + 1) :: vilsL g b n (j + 1))) H := pS_congr (n := n + (1 + 8 * (j + 1))) (by rw [show n + (1 + 8 * (j + 1)) = n + (1 + 8 * j + 1 + 7) by omega]; exact hP) (fun k hk => nf_set (N := 1 + 8 * j + 1 + 7) (i := 0) hh hlen2 (by omega) k (by omega))
    refine lv_iinc (v := nI (j + 1)) (lv' := [(1, .int (nI (j + 1))), (0, .ref (b + h))]) hx hb dX3_init_44 hl (k := 1) rfl (nI_1 j) (by decide) rfl (fun ls hl => ?_)
    refine lv_goto (tgt := 25) hx hb dX3_init_47 (by decide) ?_
    refine W.eq rfl ?_
    have := ih (j + 1) (by omega) H locs ls hP hS (lv_sub hl [1, 0] rfl)
    rw [show 1 + 8 * (j + 1) = 1 + 8 * j + 1 + 7 by omega, show 24 + 66 * (j + 1) = 24 + 66 * j + 12 + 54 by omega] at this
    exact this
def kO_X3_init_0 (b n : Nat) : va_E := .inr (3, [.int 0, .int 0, .null])
def kL_X3_init_0 (g : Gw) (b n : Nat) : List va_E := []
theorem kL_X3_init_0_len (g : Gw) (b n : Nat) : (kL_X3_init_0 g b n).length = 0 := rfl
def kO_X3_init_1 (b n : Nat) : va_E := .inr (3, [.int 0, .int 0, .null])
def kO_X3_init_2 (b n : Nat) : va_E := .inr (3, [.int 0, .int 0, .null])
def kL_X3_init_1 (g : Gw) (b n : Nat) : List va_E := kL_X3_init_0 g b n ++ [.inl (g.2.1 2, 24, .inr (.inr (.inr (.inr (fun _ => none)))))]
theorem kL_X3_init_1_len (g : Gw) (b n : Nat) : (kL_X3_init_1 g b n).length = 1 := by
  unfold kL_X3_init_1
  rw [List.length_append, kL_X3_init_0_len]
  rfl
theorem kA_X3_init_1_0 (g : Gw) (b n : Nat) : (kL_X3_init_1 g b n)[0]? = some (.inl (g.2.1 2, 24, .inr (.inr (.inr (.inr (fun _ => none)))))) := by
  unfold kL_X3_init_1
  rw [List.getElem?_append_right (by rw [kL_X3_init_0_len]; decide), kL_X3_init_0_len]
  rfl
def kO_X3_init_3 (b n : Nat) : va_E := .inr (3, [.int 0, .int 0, .ref (b + (n + 0))])
set_option maxRecDepth 100000 in
set_option maxHeartbeats 4000000 in
theorem kc_X3_init {l : Launch} {g : Gw} {b : Nat} (n h : Nat) (cw : Nat → va_E) (hh : h < n) (ho : cw h = .inr (3, [.int 0, .int 0, .null])) : MtC l yX3_init cX3_init 2 4 193 1608 g b [.ref (b + h)] (pS g b n cw) (pS g b (n + 193) (nfS cw n h (kO_X3_init b n) (kT_X3_init g b n))) := by
  refine mtc_of (by decide) rfl (Nat.le_of_ble_eq_true rfl) (fun p e s m below meth c ls H locs C hP hS hl => ?_)
  have C : Cc g p s m _ meth c cX3_init 2 RX3 := C
  have hl : lv_has ls 2 [(0, .ref (b + h))] := hl
  obtain ⟨hx, hb, hml, hown, hts, hr, hlk, hK, hNc, hin⟩ := id C
  have hP : pS g b (n + 0) (nfS cw n h (kO_X3_init_0 b n) (kL_X3_init_0 g b n)) H := pS_congr hP (nf_0 ho)
  refine lv_aload_n hx hb dX3_init_0 rfl (lv_at hl 0 rfl) ?_
  refine k_obj C hl.1 tw_83 tw_10 tw_11 ⟨Nat.le_of_ble_eq_true rfl, Nat.le_of_ble_eq_true rfl⟩ dX3_init_1 ?_
  refine lv_aload_n hx hb dX3_init_4 rfl (lv_at hl 0 rfl) ?_
  refine lv_iconst (v := 0) hx hb dX3_init_5 (by decide) ?_
  refine k_put C cf_3 hP hS (show h < n + 0 by omega) nf_self 0 (by decide) (Nat.le_of_ble_eq_true rfl) (Or.inl rfl) rfl rfl tw_84 dX3_init_6 (fun H locs hP hS => ?_)
  have hP : pS g b (n + 0) (nfS cw n h (kO_X3_init_1 b n) (kL_X3_init_0 g b n)) H := pS_congr hP (nf_put (N := 0) (kL_X3_init_0_len g b n))
  refine lv_aload_n hx hb dX3_init_9 rfl (lv_at hl 0 rfl) ?_
  refine lv_iconst (v := 0) hx hb dX3_init_10 (by decide) ?_
  refine k_put C cf_3 hP hS (show h < n + 0 by omega) nf_self 1 (by decide) (Nat.le_of_ble_eq_true rfl) (Or.inl rfl) rfl rfl tw_85 dX3_init_11 (fun H locs hP hS => ?_)
  have hP : pS g b (n + 0) (nfS cw n h (kO_X3_init_2 b n) (kL_X3_init_0 g b n)) H := pS_congr hP (nf_put (N := 0) (kL_X3_init_0_len g b n))
  refine lv_aload_n hx hb dX3_init_14 rfl (lv_at hl 0 rfl) ?_
  refine lv_bipush (v := 24) hx hb dX3_init_15 (by decide) ?_
  refine k_anew C tw_86 hP hS (N := 24) (by decide) (by decide) (by decide) (Nat.le_of_ble_eq_true rfl) (Nat.le_of_ble_eq_true rfl) dX3_init_17 (fun H hP hS => ?_)
  have hP : pS g b (n + 1) (nfS cw n h (kO_X3_init_2 b n) (kL_X3_init_1 g b n)) H := pS_congr hP (nf_push (N := 0) hh (kL_X3_init_0_len g b n))
  refine k_put C cf_3 hP hS (show h < n + 1 by omega) nf_self 2 (by decide) (Nat.le_of_ble_eq_true rfl) (Or.inr rfl) rfl rfl tw_87 dX3_init_20 (fun H locs hP hS => ?_)
  have hP : pS g b (n + 1) (nfS cw n h (kO_X3_init_3 b n) (kL_X3_init_1 g b n)) H := pS_congr hP (nf_put (N := 1) (kL_X3_init_1_len g b n))
  refine lv_iconst (v := 0) hx hb dX3_init_23 (by decide) ?_
  refine lv_istore_n (lv' := [(1, .int 0), (0, .ref (b + h))]) hx hb dX3_init_24 rfl hl (by decide) rfl (fun ls hl => ?_)
  exact kl_X3_init C hh 24 0 (by omega) H locs ls hP hS (lv_sub hl [1, 0] rfl)
