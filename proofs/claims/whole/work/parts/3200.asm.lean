theorem sg_0 (g : Gw) (b : Nat) {i : Nat} (h1 : 0 ≤ i) (h2 : i < 12) : (kT_X9_init g b 1)[i]? = (kO_X4_init b 2 :: kT_X4_init g b 2)[i - 0]? := by
  unfold kT_X9_init kL_X9_init_13
  rw [List.getElem?_set_ne (by omega)]
  unfold kL_X9_init_12
  rw [List.getElem?_append_left (by rw [kL_X9_init_11_len]; omega)]
  unfold kL_X9_init_11
  rw [List.getElem?_set_ne (by omega)]
  unfold kL_X9_init_10
  rw [List.getElem?_append_left (by rw [kL_X9_init_9_len]; omega)]
  unfold kL_X9_init_9
  rw [List.getElem?_append_left (by rw [kL_X9_init_8_len]; omega)]
  unfold kL_X9_init_8
  rw [List.getElem?_append_left (by rw [kL_X9_init_7_len]; omega)]
  unfold kL_X9_init_7
  rw [List.getElem?_append_left (by rw [kL_X9_init_6_len]; omega)]
  unfold kL_X9_init_6
  rw [List.getElem?_append_left (by rw [kL_X9_init_5_len]; omega)]
  unfold kL_X9_init_5
  rw [List.getElem?_append_left (by rw [kL_X9_init_4_len]; omega)]
  unfold kL_X9_init_4
  rw [List.getElem?_append_left (by rw [kL_X9_init_3_len]; omega)]
  unfold kL_X9_init_3
  rw [List.getElem?_append_left (by rw [kL_X9_init_2_len]; omega)]
  unfold kL_X9_init_2
  rw [List.getElem?_append_left (by rw [kL_X9_init_1_len]; omega)]
  unfold kL_X9_init_1
  rw [List.getElem?_append_right (by rw [kL_X9_init_0_len]; omega), kL_X9_init_0_len]
theorem sg_12 (g : Gw) (b : Nat) {i : Nat} (h1 : 12 ≤ i) (h2 : i < 22) : (kT_X9_init g b 1)[i]? = (kO_X6_init b 14 :: kT_X6_init g b 14)[i - 12]? := by
  unfold kT_X9_init kL_X9_init_13
  rw [List.getElem?_set_ne (by omega)]
  unfold kL_X9_init_12
  rw [List.getElem?_append_left (by rw [kL_X9_init_11_len]; omega)]
  unfold kL_X9_init_11
  rw [List.getElem?_set_ne (by omega)]
  unfold kL_X9_init_10
  rw [List.getElem?_append_left (by rw [kL_X9_init_9_len]; omega)]
  unfold kL_X9_init_9
  rw [List.getElem?_append_left (by rw [kL_X9_init_8_len]; omega)]
  unfold kL_X9_init_8
  rw [List.getElem?_append_left (by rw [kL_X9_init_7_len]; omega)]
  unfold kL_X9_init_7
  rw [List.getElem?_append_left (by rw [kL_X9_init_6_len]; omega)]
  unfold kL_X9_init_6
  rw [List.getElem?_append_left (by rw [kL_X9_init_5_len]; omega)]
  unfold kL_X9_init_5
  rw [List.getElem?_append_left (by rw [kL_X9_init_4_len]; omega)]
  unfold kL_X9_init_4
  rw [List.getElem?_append_left (by rw [kL_X9_init_3_len]; omega)]
  unfold kL_X9_init_3
  rw [List.getElem?_append_left (by rw [kL_X9_init_2_len]; omega)]
  unfold kL_X9_init_2
  rw [List.getElem?_append_right (by rw [kL_X9_init_1_len]; omega), kL_X9_init_1_len]
theorem sg_22 (g : Gw) (b : Nat) {i : Nat} (h1 : 22 ≤ i) (h2 : i < 30) : (kT_X9_init g b 1)[i]? = (kO_X8_init b 24 :: kT_X8_init g b 24)[i - 22]? := by
  unfold kT_X9_init kL_X9_init_13
  rw [List.getElem?_set_ne (by omega)]
  unfold kL_X9_init_12
  rw [List.getElem?_append_left (by rw [kL_X9_init_11_len]; omega)]
  unfold kL_X9_init_11
  rw [List.getElem?_set_ne (by omega)]
  unfold kL_X9_init_10
  rw [List.getElem?_append_left (by rw [kL_X9_init_9_len]; omega)]
  unfold kL_X9_init_9
  rw [List.getElem?_append_left (by rw [kL_X9_init_8_len]; omega)]
  unfold kL_X9_init_8
  rw [List.getElem?_append_left (by rw [kL_X9_init_7_len]; omega)]
  unfold kL_X9_init_7
  rw [List.getElem?_append_left (by rw [kL_X9_init_6_len]; omega)]
  unfold kL_X9_init_6
  rw [List.getElem?_append_left (by rw [kL_X9_init_5_len]; omega)]
  unfold kL_X9_init_5
  rw [List.getElem?_append_left (by rw [kL_X9_init_4_len]; omega)]
  unfold kL_X9_init_4
  rw [List.getElem?_append_left (by rw [kL_X9_init_3_len]; omega)]
  unfold kL_X9_init_3
  rw [List.getElem?_append_right (by rw [kL_X9_init_2_len]; omega), kL_X9_init_2_len]
theorem sg_30 (g : Gw) (b : Nat) {i : Nat} (h1 : 30 ≤ i) (h2 : i < 224) : (kT_X9_init g b 1)[i]? = (kO_X3_init b 32 :: kT_X3_init g b 32)[i - 30]? := by
  unfold kT_X9_init kL_X9_init_13
  rw [List.getElem?_set_ne (by omega)]
  unfold kL_X9_init_12
  rw [List.getElem?_append_left (by rw [kL_X9_init_11_len]; omega)]
  unfold kL_X9_init_11
  rw [List.getElem?_set_ne (by omega)]
  unfold kL_X9_init_10
  rw [List.getElem?_append_left (by rw [kL_X9_init_9_len]; omega)]
  unfold kL_X9_init_9
  rw [List.getElem?_append_left (by rw [kL_X9_init_8_len]; omega)]
  unfold kL_X9_init_8
  rw [List.getElem?_append_left (by rw [kL_X9_init_7_len]; omega)]
  unfold kL_X9_init_7
  rw [List.getElem?_append_left (by rw [kL_X9_init_6_len]; omega)]
  unfold kL_X9_init_6
  rw [List.getElem?_append_left (by rw [kL_X9_init_5_len]; omega)]
  unfold kL_X9_init_5
  rw [List.getElem?_append_left (by rw [kL_X9_init_4_len]; omega)]
  unfold kL_X9_init_4
  rw [List.getElem?_append_right (by rw [kL_X9_init_3_len]; omega), kL_X9_init_3_len]
theorem sg_225 (g : Gw) (b : Nat) {i : Nat} (h1 : 225 ≤ i) (h2 : i < 237) : (kT_X9_init g b 1)[i]? = (kO_X5_init b 227 :: kT_X5_init g b 227)[i - 225]? := by
  unfold kT_X9_init kL_X9_init_13
  rw [List.getElem?_set_ne (by omega)]
  unfold kL_X9_init_12
  rw [List.getElem?_append_left (by rw [kL_X9_init_11_len]; omega)]
  unfold kL_X9_init_11
  rw [List.getElem?_set_ne (by omega)]
  unfold kL_X9_init_10
  rw [List.getElem?_append_left (by rw [kL_X9_init_9_len]; omega)]
  unfold kL_X9_init_9
  rw [List.getElem?_append_left (by rw [kL_X9_init_8_len]; omega)]
  unfold kL_X9_init_8
  rw [List.getElem?_append_left (by rw [kL_X9_init_7_len]; omega)]
  unfold kL_X9_init_7
  rw [List.getElem?_append_left (by rw [kL_X9_init_6_len]; omega)]
  unfold kL_X9_init_6
  rw [List.getElem?_append_right (by rw [kL_X9_init_5_len]; omega), kL_X9_init_5_len]
theorem sg_237 (g : Gw) (b : Nat) {i : Nat} (h1 : 237 ≤ i) (h2 : i < 244) : (kT_X9_init g b 1)[i]? = (kO_X1_init b 239 :: kT_X1_init g b 239)[i - 237]? := by
  unfold kT_X9_init kL_X9_init_13
  rw [List.getElem?_set_ne (by omega)]
  unfold kL_X9_init_12
  rw [List.getElem?_append_left (by rw [kL_X9_init_11_len]; omega)]
  unfold kL_X9_init_11
  rw [List.getElem?_set_ne (by omega)]
  unfold kL_X9_init_10
  rw [List.getElem?_append_left (by rw [kL_X9_init_9_len]; omega)]
  unfold kL_X9_init_9
  rw [List.getElem?_append_left (by rw [kL_X9_init_8_len]; omega)]
  unfold kL_X9_init_8
  rw [List.getElem?_append_left (by rw [kL_X9_init_7_len]; omega)]
  unfold kL_X9_init_7
  rw [List.getElem?_append_right (by rw [kL_X9_init_6_len]; omega), kL_X9_init_6_len]
theorem sg_244 (g : Gw) (b : Nat) {i : Nat} (h1 : 244 ≤ i) (h2 : i < 257) : (kT_X9_init g b 1)[i]? = (kO_X7_init b 246 :: kT_X7_init g b 246)[i - 244]? := by
  unfold kT_X9_init kL_X9_init_13
  rw [List.getElem?_set_ne (by omega)]
  unfold kL_X9_init_12
  rw [List.getElem?_append_left (by rw [kL_X9_init_11_len]; omega)]
  unfold kL_X9_init_11
  rw [List.getElem?_set_ne (by omega)]
  unfold kL_X9_init_10
  rw [List.getElem?_append_left (by rw [kL_X9_init_9_len]; omega)]
  unfold kL_X9_init_9
  rw [List.getElem?_append_left (by rw [kL_X9_init_8_len]; omega)]
  unfold kL_X9_init_8
  rw [List.getElem?_append_right (by rw [kL_X9_init_7_len]; omega), kL_X9_init_7_len]
theorem sg_257 (g : Gw) (b : Nat) {i : Nat} (h1 : 257 ≤ i) (h2 : i < 259) : (kT_X9_init g b 1)[i]? = (kO_X0_init b 259 :: kT_X0_init g b 259)[i - 257]? := by
  unfold kT_X9_init kL_X9_init_13
  rw [List.getElem?_set_ne (by omega)]
  unfold kL_X9_init_12
  rw [List.getElem?_append_left (by rw [kL_X9_init_11_len]; omega)]
  unfold kL_X9_init_11
  rw [List.getElem?_set_ne (by omega)]
  unfold kL_X9_init_10
  rw [List.getElem?_append_left (by rw [kL_X9_init_9_len]; omega)]
  unfold kL_X9_init_9
  rw [List.getElem?_append_right (by rw [kL_X9_init_8_len]; omega), kL_X9_init_8_len]
theorem sg_259 (g : Gw) (b : Nat) {i : Nat} (h1 : 259 ≤ i) (h2 : i < 267) : (kT_X9_init g b 1)[i]? = (kO_X8_init b 261 :: kT_X8_init g b 261)[i - 259]? := by
  unfold kT_X9_init kL_X9_init_13
  rw [List.getElem?_set_ne (by omega)]
  unfold kL_X9_init_12
  rw [List.getElem?_append_left (by rw [kL_X9_init_11_len]; omega)]
  unfold kL_X9_init_11
  rw [List.getElem?_set_ne (by omega)]
  unfold kL_X9_init_10
  rw [List.getElem?_append_right (by rw [kL_X9_init_9_len]; omega), kL_X9_init_9_len]
theorem sg_267 (g : Gw) (b : Nat) {i : Nat} (h1 : 267 ≤ i) (h2 : i < 275) : (kT_X9_init g b 1)[i]? = (kO_X8_init b 269 :: kT_X8_init g b 269)[i - 267]? := by
  unfold kT_X9_init kL_X9_init_13
  rw [List.getElem?_set_ne (by omega)]
  unfold kL_X9_init_12
  rw [List.getElem?_append_right (by rw [kL_X9_init_11_len]; omega), kL_X9_init_11_len]
theorem sg_224 (g : Gw) (b : Nat) : (kT_X9_init g b 1)[224]? = some (.inl (g.2.1 2, 2, .inr (.inr (.inr (.inr (va_up (va_up (fun _ => none) 0 (some (b + (1 + 259)))) 1 (some (b + (1 + 267))))))))) := kA_X9_init_13_224 g b 1
theorem vils_at (g : Gw) (b n i t : Nat) (ht : t < 8) : ∀ j, i < j → (vilsL g b n j)[8 * i + t]? = (kO_X8_init b (n + (1 + 8 * i) + 1) :: kT_X8_init g b (n + (1 + 8 * i) + 1))[t]?
  | 0, h => by omega
  | j + 1, h => by
    rw [vils_succ]
    by_cases e : i = j
    · subst e
      rw [List.getElem?_append_right (by rw [vils_len]; omega), vils_len, Nat.add_sub_cancel_left]
    · rw [List.getElem?_append_left (by rw [vils_len]; omega)]
      exact vils_at g b n i t ht j (by omega)
def offV (j : Nat) : Nat := if j = 0 then 23 else if j = 1 then 14 else if j < 26 then 33 + 8 * (j - 2) else if j = 26 then 260 else if j = 27 then 268 else if j = 28 then 227 else 246
def offX (k : Nat) : Nat := match k with
  | 0 => 0 | 1 => 1 | 2 => 2 | 3 => 11 | 4 => 12 | 5 => 13 | 6 => 22 | 7 => 31 | 8 => 32 | 9 => 225 | 10 => 226 | 11 => 235 | 12 => 236 | 13 => 237 | 14 => 238 | 15 => 239 | 16 => 240 | 17 => 241 | 18 => 242 | 19 => 243 | 20 => 244 | 21 => 245 | 22 => 254 | 23 => 255 | 24 => 256 | 25 => 257 | 26 => 258 | 27 => 259
  | k + 28 => if k < 8 then 3 + k else offV ((k - 8) / 8) + (k - 8) % 8
theorem off_v {j i : Nat} (hi : i < 8) : offX (36 + 8 * j + i) = offV j + i := by
  rw [show 36 + 8 * j + i = (8 + 8 * j + i) + 28 by omega]
  show (if 8 + 8 * j + i < 8 then _ else offV ((8 + 8 * j + i - 8) / 8) + (8 + 8 * j + i - 8) % 8) = _
  rw [if_neg (by omega), show (8 + 8 * j + i - 8) / 8 = j by omega, show (8 + 8 * j + i - 8) % 8 = i by omega]
theorem off_it {r : Nat} (hr : r < 8) : offX (28 + r) = 3 + r := by
  rw [Nat.add_comm 28 r]
  show (if r < 8 then 3 + r else _) = _
  rw [if_pos hr]
def st0X : Sto := fun k => match k with
  | 3 => (upd (upd (upd (upd (upd (upd (upd (upd (fun _ => 0) 0 (-1)) 1 (-1)) 2 (-1)) 3 (-1)) 4 (-1)) 5 (-1)) 6 (-1)) 7 (-1))
  | 11 => fun _ => 60
  | 15 => fun _ => 24
  | 22 => fun _ => 20
  | _ => fun _ => 0
theorem st0X_hi {k : Nat} (h : 23 ≤ k) : st0X k = fun _ => 0 := by
  unfold st0X
  split <;> first | omega | rfl
def gwX (g : Gw) (b : Nat) : Gw := (g.1, g.2.1, fun k => b + offX k, g.2.2.2)
theorem ax_X {g : Gw} {b : Nat} {cw : Nat → va_E} {H : Heap} (hP : pS g b 276 (nfS cw 1 0 (kO_X9_init b 1) (kT_X9_init g b 1)) H) {q : Nat} {E : va_E} (hq : q < 275) (h : (kT_X9_init g b 1)[q]? = some E) : va_at g.1 vwCl (b + (1 + q), E) H := by
  have := pS_at hP (k := 1 + q) (by omega)
  rw [nf_at (by decide) h] at this
  exact this
theorem ax_vil {g : Gw} {b : Nat} {j i a : Nat} (ha : a = b + (offV j + 1)) (hi : i < 8) : (kO_X8_init a 0 :: kT_X8_init g a 0)[i]? = some (ceS (shX (36 + 8 * j + i)) g.2.1 (fun k => b + offX k) (fun _ => 0)) → True := fun _ => trivial
/-- a village's cells, wherever it was made -/
theorem ax_vc {g : Gw} {b j i : Nat} (hi : i < 8) : (kO_X8_init b (offV j + 1) :: kT_X8_init g b (offV j + 1))[i]? = some (ceS (shX (36 + 8 * j + i)) g.2.1 (fun k => b + offX k) (fun _ => 0)) := by
  rw [shX_hi _ (by omega)]
  unfold shV
  rw [show (36 + 8 * j + i - 36) % 8 = i by omega]
  have e1 : offX (36 + 8 * j + 1) = offV j + 1 := off_v (by decide)
  have e2 : offX (36 + 8 * j + 2) = offV j + 2 := off_v (by decide)
  have e3 : offX (36 + 8 * j + 3) = offV j + 3 := off_v (by decide)
  have e4 : offX (36 + 8 * j + 4) = offV j + 4 := off_v (by decide)
  have e5 : offX (36 + 8 * j + 5) = offV j + 5 := off_v (by decide)
  have e6 : offX (36 + 8 * j + 6) = offV j + 6 := off_v (by decide)
  have e7 : offX (36 + 8 * j + 7) = offV j + 7 := off_v (by decide)
  rcases (show i = 0 ∨ i = 1 ∨ i = 2 ∨ i = 3 ∨ i = 4 ∨ i = 5 ∨ i = 6 ∨ i = 7 by omega) with rfl | rfl | rfl | rfl | rfl | rfl | rfl | rfl
  · show some (kO_X8_init b (offV j + 1)) = some (.inr (8, [.int 0, .int 0, .int 0, .int 0, .int 0, .ref (b + offX (36 + 8 * j + 1)), .ref (b + offX (36 + 8 * j + 2)), .ref (b + offX (36 + 8 * j + 3)), .ref (b + offX (36 + 8 * j + 4)), .ref (b + offX (36 + 8 * j + 5)), .ref (b + offX (36 + 8 * j + 6)), .ref (b + offX (36 + 8 * j + 7))]))
    rw [e1, e2, e3, e4, e5, e6, e7]
    rfl
  all_goals rfl
theorem off_lt : ∀ k, k < 276 → offX k < 276 := by decide +kernel
theorem off_inj : ∀ i, i < 276 → ∀ j, j < 276 → offX i = offX j → i = j := by decide +kernel

set_option maxRecDepth 100000 in
theorem asm_X {g : Gw} {b : Nat} {cw : Nat → va_E} {H : Heap} (hP : pS g b 276 (nfS cw 1 0 (kO_X9_init b 1) (kT_X9_init g b 1)) H) : wS wkX (gwX g b) st0X H := by
  refine ⟨?_, fun i j hi hj h => off_inj i hi j hj (by have : b + offX i = b + offX j := h; omega)⟩
  have key : ∀ k, k < 276 → va_at g.1 vwCl (b + offX k, ceS (shX k) g.2.1 (fun k => b + offX k) (st0X k)) H := by
    intro k hk
    by_cases h36 : 36 ≤ k
    · obtain ⟨j, i, hj, hi, rfl⟩ : ∃ j i, j < 30 ∧ i < 8 ∧ k = 36 + 8 * j + i := ⟨(k - 36) / 8, (k - 36) % 8, by omega, by omega, by omega⟩
      rw [st0X_hi (by omega), off_v hi]
      have hc := @ax_vc g b j i hi
      by_cases j0 : j = 0
      · subst j0
        have := ax_X hP (q := 22 + i) (by omega) ((sg_22 g b (by omega) (by omega)).trans (by rw [Nat.add_sub_cancel_left]; exact hc))
        rw [show 1 + (22 + i) = offV 0 + i by show _ = 23 + i; omega] at this
        exact this
      by_cases j1 : j = 1
      · subst j1
        have := ax_X hP (q := 13 + i) (by omega) ((sg_12 g b (i := 13 + i) (by omega) (by omega)).trans (by
          rw [show 13 + i - 12 = i + 1 by omega, List.getElem?_cons_succ]
          show (kO_X8_init b 15 :: (kT_X8_init g b 15 ++ [.inl (g.2.1 0, 90, .inl (fun _ => 0))]))[i]? = _
          rw [← List.cons_append, List.getElem?_append_left (by rw [List.length_cons, kT_X8_init_len]; omega)]
          exact hc))
        rw [show 1 + (13 + i) = offV 1 + i by show _ = 14 + i; omega] at this
        exact this
      by_cases j26 : j < 26
      · have eo : offV j = 33 + 8 * (j - 2) := by unfold offV; rw [if_neg j0, if_neg j1, if_pos j26]
        have := ax_X hP (q := 32 + 8 * (j - 2) + i) (by omega) ((sg_30 g b (i := 32 + 8 * (j - 2) + i) (by omega) (by omega)).trans (by
          rw [show 32 + 8 * (j - 2) + i - 30 = (8 * (j - 2) + i + 1) + 1 by omega, List.getElem?_cons_succ]
          show (ringC g b 32 24 :: vilsL g b 32 24)[_]? = _
          rw [List.getElem?_cons_succ, vils_at g b 32 (j - 2) i hi 24 (by omega), show 32 + (1 + 8 * (j - 2)) + 1 = offV j + 1 by rw [eo]; omega]
          exact hc))
        rw [show 1 + (32 + 8 * (j - 2) + i) = offV j + i by rw [eo]; omega] at this
        exact this
      rcases (show j = 26 ∨ j = 27 ∨ j = 28 ∨ j = 29 by omega) with rfl | rfl | rfl | rfl
      · have := ax_X hP (q := 259 + i) (by omega) ((sg_259 g b (by omega) (by omega)).trans (by rw [Nat.add_sub_cancel_left]; exact hc))
        rw [show 1 + (259 + i) = offV 26 + i by show _ = 260 + i; omega] at this
        exact this
      · have := ax_X hP (q := 267 + i) (by omega) ((sg_267 g b (by omega) (by omega)).trans (by rw [Nat.add_sub_cancel_left]; exact hc))
        rw [show 1 + (267 + i) = offV 27 + i by show _ = 268 + i; omega] at this
        exact this
      · have := ax_X hP (q := 226 + i) (by omega) ((sg_225 g b (i := 226 + i) (by omega) (by omega)).trans (by
          rw [show 226 + i - 225 = i + 1 by omega, List.getElem?_cons_succ]
          show (kO_X8_init b 228 :: ((kT_X8_init g b 228 ++ kO_X2_init b 236 60 :: kT_X2_init g 610) ++ [.inl (g.2.1 0, 12, .inl (fun _ => 0))]))[i]? = _
          rw [List.append_assoc, ← List.cons_append, List.getElem?_append_left (by rw [List.length_cons, kT_X8_init_len]; omega)]
          exact hc))
        rw [show 1 + (226 + i) = offV 28 + i by show _ = 227 + i; omega] at this
        exact this
      · have := ax_X hP (q := 245 + i) (by omega) ((sg_244 g b (i := 245 + i) (by omega) (by omega)).trans (by
          rw [show 245 + i - 244 = i + 1 by omega, List.getElem?_cons_succ]
          show (kO_X8_init b 247 :: (((kT_X8_init g b 247 ++ kO_X2_init b 255 20 :: kT_X2_init g 210) ++ [.inl (g.2.1 1, 54, .inl (fun _ => 0))]) ++ [.inl (g.2.1 0, 6, .inl (fun _ => 0))]))[i]? = _
          rw [List.append_assoc, List.append_assoc, ← List.cons_append, List.getElem?_append_left (by rw [List.length_cons, kT_X8_init_len]; omega)]
          exact hc))
        rw [show 1 + (245 + i) = offV 29 + i by show _ = 246 + i; omega] at this
        exact this
    by_cases h28 : 28 ≤ k
    · obtain ⟨r, hr, rfl⟩ : ∃ r, r < 8 ∧ k = 28 + r := ⟨k - 28, by omega, by omega⟩
      rw [off_it hr, st0X_hi (by omega)]
      have := ax_X hP (q := 2 + r) (by omega) ((sg_0 g b (i := 2 + r) (by omega) (by omega)).trans (show _ = some (ceS (.inl (0, 40)) g.2.1 (fun k => b + offX k) (fun _ => 0)) by
        rcases (show r = 0 ∨ r = 1 ∨ r = 2 ∨ r = 3 ∨ r = 4 ∨ r = 5 ∨ r = 6 ∨ r = 7 by omega) with rfl | rfl | rfl | rfl | rfl | rfl | rfl | rfl <;> rfl))
      rw [show 1 + (2 + r) = 3 + r by omega] at this
      have e : shX (28 + r) = .inl (0, 40) := by
        rw [Nat.add_comm 28 r]
        show (if r < 8 then _ else shV (r + 28)) = _
        rw [if_pos hr]
      rw [e]
      exact this
    rcases (show k = 0 ∨ k = 1 ∨ k = 2 ∨ k = 3 ∨ k = 4 ∨ k = 5 ∨ k = 6 ∨ k = 7 ∨ k = 8 ∨ k = 9 ∨ k = 10 ∨ k = 11 ∨ k = 12 ∨ k = 13 ∨ k = 14 ∨ k = 15 ∨ k = 16 ∨ k = 17 ∨ k = 18 ∨ k = 19 ∨ k = 20 ∨ k = 21 ∨ k = 22 ∨ k = 23 ∨ k = 24 ∨ k = 25 ∨ k = 26 ∨ k = 27 by omega) with rfl | rfl | rfl | rfl | rfl | rfl | rfl | rfl | rfl | rfl | rfl | rfl | rfl | rfl | rfl | rfl | rfl | rfl | rfl | rfl | rfl | rfl | rfl | rfl | rfl | rfl | rfl | rfl
    · exact pS_at hP (k := 0) (by decide)
    · exact ax_X hP (q := 0) (by decide) (sg_0 g b (i := 0) (by decide) (by decide))
    · have h : (kT_X9_init g b 1)[1]? = some (.inl (g.2.1 3, 8, .inr (.inr (.inr (.inr (fun i => if i < 8 then some (b + 2 + 1 + i) else none)))))) := sg_0 g b (i := 1) (by decide) (by decide)
      have e2 : (fun i => if i < 8 then some (b + 2 + 1 + i) else none) = (fun i => if i < 8 then some (b + offX (itV i)) else (none : Option Nat)) := by
        funext i
        by_cases hi : i < 8
        · have e3 : offX (itV i) = 3 + i := off_it hi
          rw [if_pos hi, if_pos hi, e3, show b + 2 + 1 + i = b + (3 + i) by omega]
        · rw [if_neg hi, if_neg hi]
      rw [e2] at h
      exact ax_X hP (q := 1) (by decide) h
    · exact ax_X hP (q := 10) (by decide) (sg_0 g b (i := 10) (by decide) (by decide))
    · exact ax_X hP (q := 11) (by decide) (sg_0 g b (i := 11) (by decide) (by decide))
    · exact ax_X hP (q := 12) (by decide) (sg_12 g b (i := 12) (by decide) (by decide))
    · exact ax_X hP (q := 21) (by decide) (sg_12 g b (i := 21) (by decide) (by decide))
    · exact ax_X hP (q := 30) (by decide) (sg_30 g b (i := 30) (by decide) (by decide))
    · have h := sg_30 g b (i := 31) (by decide) (by decide)
      have e : ringC g b 32 24 = ceS (shX 8) g.2.1 (fun k => b + offX k) (st0X 8) := by
        show (_ : va_E) = .inl (g.2.1 2, 24, .inr (.inr (.inr (.inr (fun i => if i < 24 then some (b + offX (rgV i)) else none)))))
        unfold ringC
        have e2 : (fun i => if i < 24 then some (b + (32 + (1 + 8 * i))) else none) = (fun i => if i < 24 then some (b + offX (rgV i)) else (none : Option Nat)) := by
          funext i
          by_cases hi : i < 24
          · have e3 : offX (rgV i) = offV (2 + i) + 0 := off_v (j := 2 + i) (i := 0) (by decide)
            have e4 : offV (2 + i) = 33 + 8 * (2 + i - 2) := by unfold offV; rw [if_neg (by omega), if_neg (by omega), if_pos (by omega)]
            rw [if_pos hi, if_pos hi, e3, e4, show 32 + (1 + 8 * i) = 33 + 8 * (2 + i - 2) + 0 by omega]
          · rw [if_neg hi, if_neg hi]
        rw [e2]
      have h2 : (kT_X9_init g b 1)[31]? = some (ringC g b 32 24) := h
      rw [e] at h2
      exact ax_X hP (q := 31) (by decide) h2
    · have h := sg_224 g b
      have e : (.inl (g.2.1 2, 2, .inr (.inr (.inr (.inr (va_up (va_up (fun _ => none) 0 (some (b + (1 + 259)))) 1 (some (b + (1 + 267)))))))) : va_E) = ceS (shX 9) g.2.1 (fun k => b + offX k) (st0X 9) := by
        show (_ : va_E) = .inl (g.2.1 2, 2, .inr (.inr (.inr (.inr (fun i => if i < 2 then some (b + offX (imV i)) else none)))))
        have e2 : (va_up (va_up (fun _ => none) 0 (some (b + (1 + 259)))) 1 (some (b + (1 + 267)))) = (fun i => if i < 2 then some (b + offX (imV i)) else none) := by
          funext i
          unfold va_up
          by_cases h1 : i = 1
          · subst h1
            rfl
          · by_cases h0 : i = 0
            · subst h0
              rfl
            · rw [if_neg h1, if_neg h0, if_neg (by omega)]
        rw [e2]
      rw [e] at h
      exact ax_X hP (q := 224) (by decide) h
    · exact ax_X hP (q := 225) (by decide) (sg_225 g b (i := 225) (by decide) (by decide))
    · exact ax_X hP (q := 234) (by decide) (sg_225 g b (i := 234) (by decide) (by decide))
    · exact ax_X hP (q := 235) (by decide) (sg_225 g b (i := 235) (by decide) (by decide))
    · exact ax_X hP (q := 236) (by decide) (sg_225 g b (i := 236) (by decide) (by decide))
    · exact ax_X hP (q := 237) (by decide) (sg_237 g b (i := 237) (by decide) (by decide))
    · exact ax_X hP (q := 238) (by decide) (sg_237 g b (i := 238) (by decide) (by decide))
    · exact ax_X hP (q := 239) (by decide) (sg_237 g b (i := 239) (by decide) (by decide))
    · exact ax_X hP (q := 240) (by decide) (sg_237 g b (i := 240) (by decide) (by decide))
    · exact ax_X hP (q := 241) (by decide) (sg_237 g b (i := 241) (by decide) (by decide))
    · exact ax_X hP (q := 242) (by decide) (sg_237 g b (i := 242) (by decide) (by decide))
    · exact ax_X hP (q := 243) (by decide) (sg_237 g b (i := 243) (by decide) (by decide))
    · exact ax_X hP (q := 244) (by decide) (sg_244 g b (i := 244) (by decide) (by decide))
    · exact ax_X hP (q := 253) (by decide) (sg_244 g b (i := 253) (by decide) (by decide))
    · exact ax_X hP (q := 254) (by decide) (sg_244 g b (i := 254) (by decide) (by decide))
    · exact ax_X hP (q := 255) (by decide) (sg_244 g b (i := 255) (by decide) (by decide))
    · exact ax_X hP (q := 256) (by decide) (sg_244 g b (i := 256) (by decide) (by decide))
    · exact ax_X hP (q := 257) (by decide) (sg_257 g b (i := 257) (by decide) (by decide))
    · exact ax_X hP (q := 258) (by decide) (sg_257 g b (i := 258) (by decide) (by decide))
  intro k q hk
  obtain ⟨h1, rfl⟩ := wlS_at hk
  exact key k h1

