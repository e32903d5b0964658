def kgL (g : Gw) (b n : Nat) : List va_E := .inl (g.2.1 3, 8, .inr (.inr (.inr (.inr (fun i => if i < 8 then some (b + n + 1 + i) else none))))) :: List.replicate 8 (.inl (g.2.1 0, 40, .inl (fun _ => 0)))
theorem kg_nf {g : Gw} {b n h : Nat} {cw : Nat → va_E} {o : va_E} (hh : h < n) : ∀ k, k < n + 9 → cwG g b (n + 0) (nfS cw n h o []) k = nfS cw n h o (kgL g b n) k := fun k hk => by
  simp only [cwG, nfS, Nat.add_zero]
  by_cases e1 : k = n
  · subst e1
    rw [if_pos rfl, if_neg (by omega), if_neg (by omega), Nat.sub_self]
    rfl
  · rw [if_neg e1]
    by_cases e2 : n < k
    · rw [if_pos e2, if_neg (by omega), if_neg (by omega)]
      obtain ⟨j, rfl⟩ : ∃ j, k = n + 1 + j := ⟨k - n - 1, by omega⟩
      have hj : j < 8 := by omega
      rw [show n + 1 + j - n = j + 1 by omega, List.getD_eq_getElem?_getD]
      show _ = (List.replicate 8 _)[j]?.getD o
      rw [List.getElem?_replicate, if_pos hj]
      rfl
    · rw [if_neg e2]
      by_cases e3 : k = h
      · rw [if_pos e3, if_pos e3]
      · rw [if_neg e3, if_neg e3, if_pos (by omega), if_pos (by omega)]
theorem ca_X4_init : CaI yX4_init cX4_init 2 0 := ⟨tw_47, tw_14, tw_48, rfl, by decide, by decide, by decide +kernel⟩
def kO_X4_init_0 (b n : Nat) : va_E := .inr (4, [.null, .null, .null])
def kL_X4_init_0 (g : Gw) (b n : Nat) : List va_E := []
theorem kL_X4_init_0_len (g : Gw) (b n : Nat) : (kL_X4_init_0 g b n).length = 0 := rfl
def kL_X4_init_1 (g : Gw) (b n : Nat) : List va_E := kgL g b n
theorem kL_X4_init_1_len (g : Gw) (b n : Nat) : (kL_X4_init_1 g b n).length = 9 := by
  unfold kL_X4_init_1
  rfl
def kO_X4_init_1 (b n : Nat) : va_E := .inr (4, [.ref (b + (n + 0)), .null, .null])
def kL_X4_init_2 (g : Gw) (b n : Nat) : List va_E := kL_X4_init_1 g b n ++ [.inl (g.2.1 0, 8, .inl (fun _ => 0))]
theorem kL_X4_init_2_len (g : Gw) (b n : Nat) : (kL_X4_init_2 g b n).length = 10 := by
  unfold kL_X4_init_2
  rw [List.length_append, kL_X4_init_1_len]
  rfl
theorem kA_X4_init_2_9 (g : Gw) (b n : Nat) : (kL_X4_init_2 g b n)[9]? = some (.inl (g.2.1 0, 8, .inl (fun _ => 0))) := by
  unfold kL_X4_init_2
  rw [List.getElem?_append_right (by rw [kL_X4_init_1_len]; decide), kL_X4_init_1_len]
  rfl
def kO_X4_init_2 (b n : Nat) : va_E := .inr (4, [.ref (b + (n + 0)), .ref (b + (n + 9)), .null])
def kL_X4_init_3 (g : Gw) (b n : Nat) : List va_E := kL_X4_init_2 g b n ++ [.inl (g.2.1 0, 8, .inl (fun _ => 0))]
theorem kL_X4_init_3_len (g : Gw) (b n : Nat) : (kL_X4_init_3 g b n).length = 11 := by
  unfold kL_X4_init_3
  rw [List.length_append, kL_X4_init_2_len]
  rfl
theorem kA_X4_init_3_9 (g : Gw) (b n : Nat) : (kL_X4_init_3 g b n)[9]? = some (.inl (g.2.1 0, 8, .inl (fun _ => 0))) := by
  unfold kL_X4_init_3
  rw [List.getElem?_append_left (by rw [kL_X4_init_2_len]; decide)]
  exact kA_X4_init_2_9 g b n
theorem kA_X4_init_3_10 (g : Gw) (b n : Nat) : (kL_X4_init_3 g b n)[10]? = some (.inl (g.2.1 0, 8, .inl (fun _ => 0))) := by
  unfold kL_X4_init_3
  rw [List.getElem?_append_right (by rw [kL_X4_init_2_len]; decide), kL_X4_init_2_len]
  rfl
def kO_X4_init_3 (b n : Nat) : va_E := .inr (4, [.ref (b + (n + 0)), .ref (b + (n + 9)), .ref (b + (n + 10))])
def kL_X4_init_4 (g : Gw) (b n : Nat) : List va_E := (kL_X4_init_3 g b n).set 9 (.inl (g.2.1 0, 8, .inl (upd (fun _ => 0) 0 (-1))))
theorem kL_X4_init_4_len (g : Gw) (b n : Nat) : (kL_X4_init_4 g b n).length = 11 := by
  unfold kL_X4_init_4
  rw [List.length_set, kL_X4_init_3_len]
theorem kA_X4_init_4_10 (g : Gw) (b n : Nat) : (kL_X4_init_4 g b n)[10]? = some (.inl (g.2.1 0, 8, .inl (fun _ => 0))) := by
  unfold kL_X4_init_4
  rw [List.getElem?_set_ne (by decide)]
  exact kA_X4_init_3_10 g b n
theorem kA_X4_init_4_9 (g : Gw) (b n : Nat) : (kL_X4_init_4 g b n)[9]? = some (.inl (g.2.1 0, 8, .inl (upd (fun _ => 0) 0 (-1)))) := by
  unfold kL_X4_init_4
  rw [List.getElem?_set_self (by rw [kL_X4_init_3_len]; decide)]
def kL_X4_init_5 (g : Gw) (b n : Nat) : List va_E := (kL_X4_init_4 g b n).set 9 (.inl (g.2.1 0, 8, .inl (upd (upd (fun _ => 0) 0 (-1)) 1 (-1))))
theorem kL_X4_init_5_len (g : Gw) (b n : Nat) : (kL_X4_init_5 g b n).length = 11 := by
  unfold kL_X4_init_5
  rw [List.length_set, kL_X4_init_4_len]
theorem kA_X4_init_5_10 (g : Gw) (b n : Nat) : (kL_X4_init_5 g b n)[10]? = some (.inl (g.2.1 0, 8, .inl (fun _ => 0))) := by
  unfold kL_X4_init_5
  rw [List.getElem?_set_ne (by decide)]
  exact kA_X4_init_4_10 g b n
theorem kA_X4_init_5_9 (g : Gw) (b n : Nat) : (kL_X4_init_5 g b n)[9]? = some (.inl (g.2.1 0, 8, .inl (upd (upd (fun _ => 0) 0 (-1)) 1 (-1)))) := by
  unfold kL_X4_init_5
  rw [List.getElem?_set_self (by rw [kL_X4_init_4_len]; decide)]
def kL_X4_init_6 (g : Gw) (b n : Nat) : List va_E := (kL_X4_init_5 g b n).set 9 (.inl (g.2.1 0, 8, .inl (upd (upd (upd (fun _ => 0) 0 (-1)) 1 (-1)) 2 (-1))))
theorem kL_X4_init_6_len (g : Gw) (b n : Nat) : (kL_X4_init_6 g b n).length = 11 := by
  unfold kL_X4_init_6
  rw [List.length_set, kL_X4_init_5_len]
theorem kA_X4_init_6_10 (g : Gw) (b n : Nat) : (kL_X4_init_6 g b n)[10]? = some (.inl (g.2.1 0, 8, .inl (fun _ => 0))) := by
  unfold kL_X4_init_6
  rw [List.getElem?_set_ne (by decide)]
  exact kA_X4_init_5_10 g b n
theorem kA_X4_init_6_9 (g : Gw) (b n : Nat) : (kL_X4_init_6 g b n)[9]? = some (.inl (g.2.1 0, 8, .inl (upd (upd (upd (fun _ => 0) 0 (-1)) 1 (-1)) 2 (-1)))) := by
  unfold kL_X4_init_6
  rw [List.getElem?_set_self (by rw [kL_X4_init_5_len]; decide)]
def kL_X4_init_7 (g : Gw) (b n : Nat) : List va_E := (kL_X4_init_6 g b n).set 9 (.inl (g.2.1 0, 8, .inl (upd (upd (upd (upd (fun _ => 0) 0 (-1)) 1 (-1)) 2 (-1)) 3 (-1))))
theorem kL_X4_init_7_len (g : Gw) (b n : Nat) : (kL_X4_init_7 g b n).length = 11 := by
  unfold kL_X4_init_7
  rw [List.length_set, kL_X4_init_6_len]
theorem kA_X4_init_7_10 (g : Gw) (b n : Nat) : (kL_X4_init_7 g b n)[10]? = some (.inl (g.2.1 0, 8, .inl (fun _ => 0))) := by
  unfold kL_X4_init_7
  rw [List.getElem?_set_ne (by decide)]
  exact kA_X4_init_6_10 g b n
theorem kA_X4_init_7_9 (g : Gw) (b n : Nat) : (kL_X4_init_7 g b n)[9]? = some (.inl (g.2.1 0, 8, .inl (upd (upd (upd (upd (fun _ => 0) 0 (-1)) 1 (-1)) 2 (-1)) 3 (-1)))) := by
  unfold kL_X4_init_7
  rw [List.getElem?_set_self (by rw [kL_X4_init_6_len]; decide)]
def kL_X4_init_8 (g : Gw) (b n : Nat) : List va_E := (kL_X4_init_7 g b n).set 9 (.inl (g.2.1 0, 8, .inl (upd (upd (upd (upd (upd (fun _ => 0) 0 (-1)) 1 (-1)) 2 (-1)) 3 (-1)) 4 (-1))))
theorem kL_X4_init_8_len (g : Gw) (b n : Nat) : (kL_X4_init_8 g b n).length = 11 := by
  unfold kL_X4_init_8
  rw [List.length_set, kL_X4_init_7_len]
theorem kA_X4_init_8_10 (g : Gw) (b n : Nat) : (kL_X4_init_8 g b n)[10]? = some (.inl (g.2.1 0, 8, .inl (fun _ => 0))) := by
  unfold kL_X4_init_8
  rw [List.getElem?_set_ne (by decide)]
  exact kA_X4_init_7_10 g b n
theorem kA_X4_init_8_9 (g : Gw) (b n : Nat) : (kL_X4_init_8 g b n)[9]? = some (.inl (g.2.1 0, 8, .inl (upd (upd (upd (upd (upd (fun _ => 0) 0 (-1)) 1 (-1)) 2 (-1)) 3 (-1)) 4 (-1)))) := by
  unfold kL_X4_init_8
  rw [List.getElem?_set_self (by rw [kL_X4_init_7_len]; decide)]
def kL_X4_init_9 (g : Gw) (b n : Nat) : List va_E := (kL_X4_init_8 g b n).set 9 (.inl (g.2.1 0, 8, .inl (upd (upd (upd (upd (upd (upd (fun _ => 0) 0 (-1)) 1 (-1)) 2 (-1)) 3 (-1)) 4 (-1)) 5 (-1))))
theorem kL_X4_init_9_len (g : Gw) (b n : Nat) : (kL_X4_init_9 g b n).length = 11 := by
  unfold kL_X4_init_9
  rw [List.length_set, kL_X4_init_8_len]
theorem kA_X4_init_9_10 (g : Gw) (b n : Nat) : (kL_X4_init_9 g b n)[10]? = some (.inl (g.2.1 0, 8, .inl (fun _ => 0))) := by
  unfold kL_X4_init_9
  rw [List.getElem?_set_ne (by decide)]
  exact kA_X4_init_8_10 g b n
theorem kA_X4_init_9_9 (g : Gw) (b n : Nat) : (kL_X4_init_9 g b n)[9]? = some (.inl (g.2.1 0, 8, .inl (upd (upd (upd (upd (upd (upd (fun _ => 0) 0 (-1)) 1 (-1)) 2 (-1)) 3 (-1)) 4 (-1)) 5 (-1)))) := by
  unfold kL_X4_init_9
  rw [List.getElem?_set_self (by rw [kL_X4_init_8_len]; decide)]
def kL_X4_init_10 (g : Gw) (b n : Nat) : List va_E := (kL_X4_init_9 g b n).set 9 (.inl (g.2.1 0, 8, .inl (upd (upd (upd (upd (upd (upd (upd (fun _ => 0) 0 (-1)) 1 (-1)) 2 (-1)) 3 (-1)) 4 (-1)) 5 (-1)) 6 (-1))))
theorem kL_X4_init_10_len (g : Gw) (b n : Nat) : (kL_X4_init_10 g b n).length = 11 := by
  unfold kL_X4_init_10
  rw [List.length_set, kL_X4_init_9_len]
theorem kA_X4_init_10_10 (g : Gw) (b n : Nat) : (kL_X4_init_10 g b n)[10]? = some (.inl (g.2.1 0, 8, .inl (fun _ => 0))) := by
  unfold kL_X4_init_10
  rw [List.getElem?_set_ne (by decide)]
  exact kA_X4_init_9_10 g b n
theorem kA_X4_init_10_9 (g : Gw) (b n : Nat) : (kL_X4_init_10 g b n)[9]? = some (.inl (g.2.1 0, 8, .inl (upd (upd (upd (upd (upd (upd (upd (fun _ => 0) 0 (-1)) 1 (-1)) 2 (-1)) 3 (-1)) 4 (-1)) 5 (-1)) 6 (-1)))) := by
  unfold kL_X4_init_10
  rw [List.getElem?_set_self (by rw [kL_X4_init_9_len]; decide)]
def kL_X4_init_11 (g : Gw) (b n : Nat) : List va_E := (kL_X4_init_10 g b n).set 9 (.inl (g.2.1 0, 8, .inl (upd (upd (upd (upd (upd (upd (upd (upd (fun _ => 0) 0 (-1)) 1 (-1)) 2 (-1)) 3 (-1)) 4 (-1)) 5 (-1)) 6 (-1)) 7 (-1))))
theorem kL_X4_init_11_len (g : Gw) (b n : Nat) : (kL_X4_init_11 g b n).length = 11 := by
  unfold kL_X4_init_11
  rw [List.length_set, kL_X4_init_10_len]
theorem kA_X4_init_11_10 (g : Gw) (b n : Nat) : (kL_X4_init_11 g b n)[10]? = some (.inl (g.2.1 0, 8, .inl (fun _ => 0))) := by
  unfold kL_X4_init_11
  rw [List.getElem?_set_ne (by decide)]
  exact kA_X4_init_10_10 g b n
theorem kA_X4_init_11_9 (g : Gw) (b n : Nat) : (kL_X4_init_11 g b n)[9]? = some (.inl (g.2.1 0, 8, .inl (upd (upd (upd (upd (upd (upd (upd (upd (fun _ => 0) 0 (-1)) 1 (-1)) 2 (-1)) 3 (-1)) 4 (-1)) 5 (-1)) 6 (-1)) 7 (-1)))) := by
  unfold kL_X4_init_11
  rw [List.getElem?_set_self (by rw [kL_X4_init_10_len]; decide)]
def kO_X4_init (b n : Nat) : va_E := kO_X4_init_3 b n
def kT_X4_init (g : Gw) (b n : Nat) : List va_E := kL_X4_init_11 g b n
theorem kT_X4_init_len (g : Gw) (b n : Nat) : (kT_X4_init g b n).length = 11 := kL_X4_init_11_len g b n
set_option maxRecDepth 100000 in
set_option maxHeartbeats 4000000 in
theorem kc_X4_init {l : Launch} {g : Gw} {b : Nat} (n h : Nat) (cw : Nat → va_E) (hh : h < n) (ho : cw h = .inr (4, [.null, .null, .null])) : MtC l yX4_init cX4_init 2 2 11 344 g b [.ref (b + h)] (pS g b n cw) (pS g b (n + 11) (nfS cw n h (kO_X4_init b n) (kT_X4_init g b n))) := by
  refine mtc_of (by decide) rfl (Nat.le_of_ble_eq_true rfl) (fun p e s m below meth c ls H locs C hP hS hl => ?_)
  have C : Cc g p s m _ meth c cX4_init 2 RX4 := C
  have hl : lv_has ls 2 [(0, .ref (b + h))] := hl
  obtain ⟨hx, hb, hml, hown, hts, hr, hlk, hK, hNc, hin⟩ := id C
  have hP : pS g b (n + 0) (nfS cw n h (kO_X4_init_0 b n) (kL_X4_init_0 g b n)) H := pS_congr hP (nf_0 ho)
  refine lv_aload_n hx hb dX4_init_0 rfl (lv_at hl 0 rfl) ?_
  refine k_obj C hl.1 tw_49 tw_10 tw_11 ⟨Nat.le_of_ble_eq_true rfl, Nat.le_of_ble_eq_true rfl⟩ dX4_init_1 ?_
  refine lv_aload_n hx hb dX4_init_4 rfl (lv_at hl 0 rfl) ?_
  refine lv_bipush (v := 8) hx hb dX4_init_5 (by decide) ?_
  refine lv_bipush (v := 40) hx hb dX4_init_7 (by decide) ?_
  refine k_mna C (hts _ tw_50) tw_51 hP hS (Nat.le_of_ble_eq_true rfl) (Nat.le_of_ble_eq_true rfl) dX4_init_9 (fun H hP hS => ?_)
  have hP : pS g b (n + 9) (nfS cw n h (kO_X4_init_0 b n) (kL_X4_init_1 g b n)) H := pS_congr hP (kg_nf hh)
  refine k_put C cf_4 hP hS (show h < n + 9 by omega) nf_self 0 (by decide) (Nat.le_of_ble_eq_true rfl) (Or.inr rfl) rfl rfl tw_52 dX4_init_13 (fun H locs hP hS => ?_)
  have hP : pS g b (n + 9) (nfS cw n h (kO_X4_init_1 b n) (kL_X4_init_1 g b n)) H := pS_congr hP (nf_put (N := 9) (kL_X4_init_1_len g b n))
  refine lv_aload_n hx hb dX4_init_16 rfl (lv_at hl 0 rfl) ?_
  refine lv_bipush (v := 8) hx hb dX4_init_17 (by decide) ?_
  refine k_newI C tw_51 hP hS (N := 8) (by decide) (by decide) (by decide) (Nat.le_of_ble_eq_true rfl) (Nat.le_of_ble_eq_true rfl) dX4_init_19 (fun H hP hS => ?_)
  have hP : pS g b (n + 10) (nfS cw n h (kO_X4_init_1 b n) (kL_X4_init_2 g b n)) H := pS_congr hP (nf_push (N := 9) hh (kL_X4_init_1_len g b n))
  refine k_put C cf_4 hP hS (show h < n + 10 by omega) nf_self 1 (by decide) (Nat.le_of_ble_eq_true rfl) (Or.inr rfl) rfl rfl tw_53 dX4_init_21 (fun H locs hP hS => ?_)
  have hP : pS g b (n + 10) (nfS cw n h (kO_X4_init_2 b n) (kL_X4_init_2 g b n)) H := pS_congr hP (nf_put (N := 10) (kL_X4_init_2_len g b n))
  refine lv_aload_n hx hb dX4_init_24 rfl (lv_at hl 0 rfl) ?_
  refine lv_bipush (v := 8) hx hb dX4_init_25 (by decide) ?_
  refine k_newI C tw_51 hP hS (N := 8) (by decide) (by decide) (by decide) (Nat.le_of_ble_eq_true rfl) (Nat.le_of_ble_eq_true rfl) dX4_init_27 (fun H hP hS => ?_)
  have hP : pS g b (n + 11) (nfS cw n h (kO_X4_init_2 b n) (kL_X4_init_3 g b n)) H := pS_congr hP (nf_push (N := 10) hh (kL_X4_init_2_len g b n))
  refine k_put C cf_4 hP hS (show h < n + 11 by omega) nf_self 2 (by decide) (Nat.le_of_ble_eq_true rfl) (Or.inr rfl) rfl rfl tw_54 dX4_init_29 (fun H locs hP hS => ?_)
  have hP : pS g b (n + 11) (nfS cw n h (kO_X4_init_3 b n) (kL_X4_init_3 g b n)) H := pS_congr hP (nf_put (N := 11) (kL_X4_init_3_len g b n))
  refine lv_iconst (v := 0) hx hb dX4_init_32 (by decide) ?_
  refine lv_istore_n (lv' := [(1, .int 0), (0, .ref (b + h))]) hx hb dX4_init_33 rfl hl (by decide) rfl (fun ls hl => ?_)
  refine lv_iload_n hx hb dX4_init_34 rfl (lv_at hl 0 rfl) ?_
  refine lv_bipush (v := 8) hx hb dX4_init_35 (by decide) ?_
  refine lv_icmp_ge (tgt := 53) hx hb dX4_init_37 (by decide) (fun c_ => absurd c_ (by decide)) (fun _ => ?_)
  refine lv_aload_n hx hb dX4_init_40 rfl (lv_at hl 1 rfl) ?_
  refine k_get C cf_4 hP (show h < n + 11 by omega) nf_self 1 (by decide) rfl tw_53 dX4_init_41 ?_
  refine lv_iload_n hx hb dX4_init_44 rfl (lv_at hl 0 rfl) ?_
  refine lv_iconst (v := (-1)) hx hb dX4_init_45 (by decide) ?_
  refine k_iast C hP hS (k := n + 9) (show n + 9 < n + 11 by omega) (nf_at hh (kA_X4_init_3_9 g b n)) (vin_in (by decide)) dX4_init_46 (fun H locs hP hS => ?_)
  have hP : pS g b (n + 11) (nfS cw n h (kO_X4_init_3 b n) (kL_X4_init_4 g b n)) H := pS_congr hP (nf_set (N := 11) (i := 9) hh (kL_X4_init_3_len g b n) (by decide))
  refine lv_iinc (v := 1) (lv' := [(1, .int 1), (0, .ref (b + h))]) hx hb dX4_init_47 hl (k := 0) rfl (by decide) (by decide) rfl (fun ls hl => ?_)
  refine lv_goto (tgt := 34) hx hb dX4_init_50 (by decide) ?_
  refine lv_iload_n hx hb dX4_init_34 rfl (lv_at hl 0 rfl) ?_
  refine lv_bipush (v := 8) hx hb dX4_init_35 (by decide) ?_
  refine lv_icmp_ge (tgt := 53) hx hb dX4_init_37 (by decide) (fun c_ => absurd c_ (by decide)) (fun _ => ?_)
  refine lv_aload_n hx hb dX4_init_40 rfl (lv_at hl 1 rfl) ?_
  refine k_get C cf_4 hP (show h < n + 11 by omega) nf_self 1 (by decide) rfl tw_53 dX4_init_41 ?_
  refine lv_iload_n hx hb dX4_init_44 rfl (lv_at hl 0 rfl) ?_
  refine lv_iconst (v := (-1)) hx hb dX4_init_45 (by decide) ?_
  refine k_iast C hP hS (k := n + 9) (show n + 9 < n + 11 by omega) (nf_at hh (kA_X4_init_4_9 g b n)) (vin_in (by decide)) dX4_init_46 (fun H locs hP hS => ?_)
  have hP : pS g b (n + 11) (nfS cw n h (kO_X4_init_3 b n) (kL_X4_init_5 g b n)) H := pS_congr hP (nf_set (N := 11) (i := 9) hh (kL_X4_init_4_len g b n) (by decide))
  refine lv_iinc (v := 2) (lv' := [(1, .int 2), (0, .ref (b + h))]) hx hb dX4_init_47 hl (k := 0) rfl (by decide) (by decide) rfl (fun ls hl => ?_)
  refine lv_goto (tgt := 34) hx hb dX4_init_50 (by decide) ?_
  refine lv_iload_n hx hb dX4_init_34 rfl (lv_at hl 0 rfl) ?_
  refine lv_bipush (v := 8) hx hb dX4_init_35 (by decide) ?_
  refine lv_icmp_ge (tgt := 53) hx hb dX4_init_37 (by decide) (fun c_ => absurd c_ (by decide)) (fun _ => ?_)
  refine lv_aload_n hx hb dX4_init_40 rfl (lv_at hl 1 rfl) ?_
  refine k_get C cf_4 hP (show h < n + 11 by omega) nf_self 1 (by decide) rfl tw_53 dX4_init_41 ?_
  refine lv_iload_n hx hb dX4_init_44 rfl (lv_at hl 0 rfl) ?_
  refine lv_iconst (v := (-1)) hx hb dX4_init_45 (by decide) ?_
  refine k_iast C hP hS (k := n + 9) (show n + 9 < n + 11 by omega) (nf_at hh (kA_X4_init_5_9 g b n)) (vin_in (by decide)) dX4_init_46 (fun H locs hP hS => ?_)
  have hP : pS g b (n + 11) (nfS cw n h (kO_X4_init_3 b n) (kL_X4_init_6 g b n)) H := pS_congr hP (nf_set (N := 11) (i := 9) hh (kL_X4_init_5_len g b n) (by decide))
  refine lv_iinc (v := 3) (lv' := [(1, .int 3), (0, .ref (b + h))]) hx hb dX4_init_47 hl (k := 0) rfl (by decide) (by decide) rfl (fun ls hl => ?_)
  refine lv_goto (tgt := 34) hx hb dX4_init_50 (by decide) ?_
  refine lv_iload_n hx hb dX4_init_34 rfl (lv_at hl 0 rfl) ?_
  refine lv_bipush (v := 8) hx hb dX4_init_35 (by decide) ?_
  refine lv_icmp_ge (tgt := 53) hx hb dX4_init_37 (by decide) (fun c_ => absurd c_ (by decide)) (fun _ => ?_)
  refine lv_aload_n hx hb dX4_init_40 rfl (lv_at hl 1 rfl) ?_
  refine k_get C cf_4 hP (show h < n + 11 by omega) nf_self 1 (by decide) rfl tw_53 dX4_init_41 ?_
  refine lv_iload_n hx hb dX4_init_44 rfl (lv_at hl 0 rfl) ?_
  refine lv_iconst (v := (-1)) hx hb dX4_init_45 (by decide) ?_
  refine k_iast C hP hS (k := n + 9) (show n + 9 < n + 11 by omega) (nf_at hh (kA_X4_init_6_9 g b n)) (vin_in (by decide)) dX4_init_46 (fun H locs hP hS => ?_)
  have hP : pS g b (n + 11) (nfS cw n h (kO_X4_init_3 b n) (kL_X4_init_7 g b n)) H := pS_congr hP (nf_set (N := 11) (i := 9) hh (kL_X4_init_6_len g b n) (by decide))
  refine lv_iinc (v := 4) (lv' := [(1, .int 4), (0, .ref (b + h))]) hx hb dX4_init_47 hl (k := 0) rfl (by decide) (by decide) rfl (fun ls hl => ?_)
  refine lv_goto (tgt := 34) hx hb dX4_init_50 (by decide) ?_
  refine lv_iload_n hx hb dX4_init_34 rfl (lv_at hl 0 rfl) ?_
  refine lv_bipush (v := 8) hx hb dX4_init_35 (by decide) ?_
  refine lv_icmp_ge (tgt := 53) hx hb dX4_init_37 (by decide) (fun c_ => absurd c_ (by decide)) (fun _ => ?_)
  refine lv_aload_n hx hb dX4_init_40 rfl (lv_at hl 1 rfl) ?_
  refine k_get C cf_4 hP (show h < n + 11 by omega) nf_self 1 (by decide) rfl tw_53 dX4_init_41 ?_
  refine lv_iload_n hx hb dX4_init_44 rfl (lv_at hl 0 rfl) ?_
  refine lv_iconst (v := (-1)) hx hb dX4_init_45 (by decide) ?_
  refine k_iast C hP hS (k := n + 9) (show n + 9 < n + 11 by omega) (nf_at hh (kA_X4_init_7_9 g b n)) (vin_in (by decide)) dX4_init_46 (fun H locs hP hS => ?_)
  have hP : pS g b (n + 11) (nfS cw n h (kO_X4_init_3 b n) (kL_X4_init_8 g b n)) H := pS_congr hP (nf_set (N := 11) (i := 9) hh (kL_X4_init_7_len g b n) (by decide))
  refine lv_iinc (v := 5) (lv' := [(1, .int 5), (0, .ref (b + h))]) hx hb dX4_init_47 hl (k := 0) rfl (by decide) (by decide) rfl (fun ls hl => ?_)
  refine lv_goto (tgt := 34) hx hb dX4_init_50 (by decide) ?_
  refine lv_iload_n hx hb dX4_init_34 rfl (lv_at hl 0 rfl) ?_
  refine lv_bipush (v := 8) hx hb dX4_init_35 (by decide) ?_
  refine lv_icmp_ge (tgt := 53) hx hb dX4_init_37 (by decide) (fun c_ => absurd c_ (by decide)) (fun _ => ?_)
  refine lv_aload_n hx hb dX4_init_40 rfl (lv_at hl 1 rfl) ?_
  refine k_get C cf_4 hP (show h < n + 11 by omega) nf_self 1 (by decide) rfl tw_53 dX4_init_41 ?_
  refine lv_iload_n hx hb dX4_init_44 rfl (lv_at hl 0 rfl) ?_
  refine lv_iconst (v := (-1)) hx hb dX4_init_45 (by decide) ?_
  refine k_iast C hP hS (k := n + 9) (show n + 9 < n + 11 by omega) (nf_at hh (kA_X4_init_8_9 g b n)) (vin_in (by decide)) dX4_init_46 (fun H locs hP hS => ?_)
  have hP : pS g b (n + 11) (nfS cw n h (kO_X4_init_3 b n) (kL_X4_init_9 g b n)) H := pS_congr hP (nf_set (N := 11) (i := 9) hh (kL_X4_init_8_len g b n) (by decide))
  refine lv_iinc (v := 6) (lv' := [(1, .int 6), (0, .ref (b + h))]) hx hb dX4_init_47 hl (k := 0) rfl (by decide) (by decide) rfl (fun ls hl => ?_)
  refine lv_goto (tgt := 34) hx hb dX4_init_50 (by decide) ?_
  refine lv_iload_n hx hb dX4_init_34 rfl (lv_at hl 0 rfl) ?_
  refine lv_bipush (v := 8) hx hb dX4_init_35 (by decide) ?_
  refine lv_icmp_ge (tgt := 53) hx hb dX4_init_37 (by decide) (fun c_ => absurd c_ (by decide)) (fun _ => ?_)
  refine lv_aload_n hx hb dX4_init_40 rfl (lv_at hl 1 rfl) ?_
  refine k_get C cf_4 hP (show h < n + 11 by omega) nf_self 1 (by decide) rfl tw_53 dX4_init_41 ?_
  refine lv_iload_n hx hb dX4_init_44 rfl (lv_at hl 0 rfl) ?_
  refine lv_iconst (v := (-1)) hx hb dX4_init_45 (by decide) ?_
  refine k_iast C hP hS (k := n + 9) (show n + 9 < n + 11 by omega) (nf_at hh (kA_X4_init_9_9 g b n)) (vin_in (by decide)) dX4_init_46 (fun H locs hP hS => ?_)
  have hP : pS g b (n + 11) (nfS cw n h (kO_X4_init_3 b n) (kL_X4_init_10 g b n)) H := pS_congr hP (nf_set (N := 11) (i := 9) hh (kL_X4_init_9_len g b n) (by decide))
  refine lv_iinc (v := 7) (lv' := [(1, .int 7), (0, .ref (b + h))]) hx hb dX4_init_47 hl (k := 0) rfl (by decide) (by decide) rfl (fun ls hl => ?_)
  refine lv_goto (tgt := 34) hx hb dX4_init_50 (by decide) ?_
  refine lv_iload_n hx hb dX4_init_34 rfl (lv_at hl 0 rfl) ?_
  refine lv_bipush (v := 8) hx hb dX4_init_35 (by decide) ?_
  refine lv_icmp_ge (tgt := 53) hx hb dX4_init_37 (by decide) (fun c_ => absurd c_ (by decide)) (fun _ => ?_)
  refine lv_aload_n hx hb dX4_init_40 rfl (lv_at hl 1 rfl) ?_
  refine k_get C cf_4 hP (show h < n + 11 by omega) nf_self 1 (by decide) rfl tw_53 dX4_init_41 ?_
  refine lv_iload_n hx hb dX4_init_44 rfl (lv_at hl 0 rfl) ?_
  refine lv_iconst (v := (-1)) hx hb dX4_init_45 (by decide) ?_
  refine k_iast C hP hS (k := n + 9) (show n + 9 < n + 11 by omega) (nf_at hh (kA_X4_init_10_9 g b n)) (vin_in (by decide)) dX4_init_46 (fun H locs hP hS => ?_)
  have hP : pS g b (n + 11) (nfS cw n h (kO_X4_init_3 b n) (kL_X4_init_11 g b n)) H := pS_congr hP (nf_set (N := 11) (i := 9) hh (kL_X4_init_10_len g b n) (by decide))
  refine lv_iinc (v := 8) (lv' := [(1, .int 8), (0, .ref (b + h))]) hx hb dX4_init_47 hl (k := 0) rfl (by decide) (by decide) rfl (fun ls hl => ?_)
  refine lv_goto (tgt := 34) hx hb dX4_init_50 (by decide) ?_
  refine lv_iload_n hx hb dX4_init_34 rfl (lv_at hl 0 rfl) ?_
  refine lv_bipush (v := 8) hx hb dX4_init_35 (by decide) ?_
  refine lv_icmp_ge (tgt := 53) hx hb dX4_init_37 (by decide) (fun _ => ?_) (fun c_ => absurd (by decide) c_)
  exact k_ret C hP hS dX4_init_53
