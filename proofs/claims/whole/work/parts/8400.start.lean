set_option maxHeartbeats 4000000 in
set_option maxRecDepth 100000 in
/-- THE LAW, from its entry -/
theorem whole_start {p : Program} {e : Env} {s : State} {m : MethodId} {below : List Frame} {meth : Method} {c : Code} (l : Launch) (hflags : l.flags = flags0) {b L : Nat} {xs : Nat → Int32} (hL : L ≤ 3072) (C0 : lw_At p s m meth c b L xs) : W p l e room_1 s m #[Value.ref b] below meth c s.heap [] 0 0 (lw_Z below #[Value.ref b] s) (entryFrame m ([Value.ref b] : List Value).toArray 4) := by
  obtain ⟨hx, hb, hr, hml, hown, hts, hX, hbl, hlocks, hgv⟩ := id C0
  obtain ⟨D, cs, hKS⟩ := law_K hts
  obtain ⟨st, hst⟩ := law_S hts hgv
  have hNC := law_NC hts
  have hNS := law_NS hts
  have hwl : ∀ w ∈ wsL_law, w.before #[Value.ref b] s = true := fun w h => hts w (wsL_law_in w h)
  have hown : s.vm.findClass RL = some m.cls := hown
  obtain ⟨g0, eg0⟩ : ∃ z : Gw, z = (D, cs, fun _ => 0, st) := ⟨_, rfl⟩
  have CB : Cb g0 p s m #[Value.ref b] c cL_law 4 RL := ⟨hx, hb, hml, hown, hwl, by rw [eg0]; exact hKS _, hNC⟩
  have hl := lv_entry ([.ref b]) (n := 4) (Nat.le_of_ble_eq_true rfl)
  rw [lg_entry_eq]
  generalize (lg_sl ([.ref b]) ++ List.replicate (4 - (lg_sl ([.ref b])).length) Slot.unset).toArray = ls at hl ⊢
  have hl : lv_has ls 4 [(0, .ref b)] := hl
  have hS : va_S (bA s.heap.size) s.heap s.heap [] := va_S.rf
  have hP : pS g0 s.heap.size 0 (fun _ => .inr (0, [])) s.heap := pS_of rfl (fun k hk => absurd hk (Nat.not_lt_zero _))
  refine lk_new CB cf_9 tw_0 tw_1 tw_2 hP hS (fs := [.null, .null, .null, .null, .null, .null, .null, .null, .null, .int 0]) df_9 (Nat.le_of_ble_eq_true rfl) (Nat.le_of_ble_eq_true rfl) dL_law_0 (fun H hP ho hS => ?_)
  refine lv_dup hx hb dL_law_3 rfl ?_
  refine lk_callI (As := []) (rest := [.ref (s.heap.size + 0)]) CB ca_X9_init tw_6 (kc_X9_init 1 0 (va_up (fun _ => .inr (0, [])) 0 (.inr (9, [.null, .null, .null, .null, .null, .null, .null, .null, .null, .int 0]))) (by decide) (vu_s _ _ _)) hP hS (Nat.le_refl _) rfl hl.1 (Nat.le_of_ble_eq_true rfl) ⟨Nat.le_of_ble_eq_true rfl, Nat.le_of_ble_eq_true rfl⟩ ⟨Nat.le_of_ble_eq_true rfl, Nat.le_of_ble_eq_true rfl⟩ dL_law_4 (fun H locs hP ho hS => ?_)
  have hz : H.size = s.heap.size + 276 := hP.1
  have hPX : wS wkX (gwX g0 s.heap.size) st0X H := asm_X hP
  refine lv_astore_n (lv' := [(1, .ref (s.heap.size + 0)), (0, .ref b)]) hx hb dL_law_7 rfl hl (by decide) rfl (fun ls hl => ?_)
  have hP2 : pS g0 (s.heap.size + 276) 0 (fun _ => .inr (0, [])) H := pS_of hz (fun k hk => absurd hk (Nat.not_lt_zero _))
  refine lk_new CB cf_10 tw_3 tw_4 tw_5 hP2 hS (fs := [.null, .null, .null, .int 0, .null, .null, .null, .null, .int 0, .null, .null, .null, .int 0, .int 0, .null, .int 0, .int 0, .int 0, .int 0, .int 0, .int 0, .null, .null, .null]) df_10 (Nat.le_of_ble_eq_true rfl) (Nat.le_of_ble_eq_true rfl) dL_law_8 (fun H1 hP2 ho1 hS => ?_)
  have hzz : H.size ≤ H1.size := by rw [hz, hP2.1]; exact Nat.le_add_right _ _
  refine lv_dup hx hb dL_law_11 rfl ?_
  refine lk_callI (As := []) (rest := [.ref (s.heap.size + 276 + 0)]) CB ca_X10_init tw_140 (kc_X10_init 1 0 (va_up (fun _ => .inr (0, [])) 0 (.inr (10, [.null, .null, .null, .int 0, .null, .null, .null, .null, .int 0, .null, .null, .null, .int 0, .int 0, .null, .int 0, .int 0, .int 0, .int 0, .int 0, .int 0, .null, .null, .null]))) (by decide) (vu_s _ _ _)) hP2 hS (Nat.le_add_right _ _) rfl hl.1 (Nat.le_of_ble_eq_true rfl) ⟨Nat.le_of_ble_eq_true rfl, Nat.le_of_ble_eq_true rfl⟩ ⟨Nat.le_of_ble_eq_true rfl, Nat.le_of_ble_eq_true rfl⟩ dL_law_12 (fun H2 locs hP2 ho2 hS => ?_)
  have hPM : wS wkM (gwM g0 (s.heap.size + 276)) st0M H2 := asm_M hP2
  have hz1 : H.size ≤ H1.size := hzz
  have hPX : wS wkX (gwX g0 s.heap.size) st0X H2 := wS_keep hPX (fun q hq => by
    have h1 := wS_lt hPX q hq
    rw [ho2 q (by omega) (by omega), ho1 q h1])
  refine lv_astore_n (lv' := [(2, .ref (s.heap.size + 276 + 0)), (1, .ref (s.heap.size + 0)), (0, .ref b)]) hx hb dL_law_15 rfl hl (by decide) rfl (fun ls hl => ?_)
  refine lv_iconst (v := 0) hx hb dL_law_16 (by decide) ?_
  refine lv_istore_n (lv' := [(3, .int 0), (2, .ref (s.heap.size + 276 + 0)), (1, .ref (s.heap.size + 0)), (0, .ref b)]) hx hb dL_law_17 rfl hl (by decide) rfl (fun ls hl => ?_)
  have hAX : ∀ q, AS wkX (gwX g0 s.heap.size) q → s.heap.size ≤ q ∧ q < s.heap.size + 276 := by
    rintro q ⟨k, hk, rfl⟩
    have h1 := off_lt k hk
    show s.heap.size ≤ s.heap.size + offX k ∧ s.heap.size + offX k < s.heap.size + 276
    omega
  have hAM : ∀ q, AS wkM (gwM g0 (s.heap.size + 276)) q → s.heap.size + 276 ≤ q := by
    rintro q ⟨k, hk, rfl⟩
    show s.heap.size + 276 ≤ s.heap.size + 276 + k
    omega
  have CX : Cx wkX (gwX g0 s.heap.size) p s m #[Value.ref b] meth c cL_law 4 RL ret := ⟨hx, hb, hml, hown, hwl, hr, hlocks, by rw [eg0]; exact hKS _, hNS, fun i q hq => by
    have := hst (AS wkX (gwX g0 s.heap.size)) (fun a ha h => by have := (hAX a h).1; omega) i q hq
    rw [show (gwX g0 s.heap.size).2.2.2 = st by rw [eg0]; rfl]
    exact this⟩
  have CM : Cx wkM (gwM g0 (s.heap.size + 276)) p s m #[Value.ref b] meth c cL_law 4 RL ret := ⟨hx, hb, hml, hown, hwl, hr, hlocks, by rw [eg0]; exact hKS _, hNS, fun i q hq => by simp [wkM] at hq⟩
  exact law_loop hL hX hbl hr CX CM (fun q h => (hAX q h).1) (fun q h => by have := hAM q h; omega) (fun q h1 h2 => by have := (hAX q h1).2; have := hAM q h2; omega) (fun q h1 h2 => by have := (hAX q h2).2; have := hAM q h1; omega) 513 0 (by decide) (by decide) st0X st0M H2 locs ls inv_0 hPX hPM hS (lv_sub hl [3, 2, 1, 0] rfl)
