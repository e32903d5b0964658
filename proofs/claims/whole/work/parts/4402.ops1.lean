/-! entries that only read the street -/
theorem ex2 {x y : Option Int32} (h : x = y) (hs : ∃ r, x = some r) : ∃ r, x = some r ∧ y = some r := by
  obtain ⟨r, hr⟩ := hs
  exact ⟨r, hr, by rw [← h]; exact hr⟩
theorem op_kind {σx σm : Sto} (h : Inv σx σm) (a1 : Int32) : ∃ r, fX9_kind σx a1 = some r ∧ fX10_kind σm a1 = some r := by
  obtain ⟨u, hn⟩ := h.1
  unfold fX9_kind fX10_kind
  rcases g_thing hn a1 with ⟨i1, ok, e1, e2⟩ | ⟨_, e1, e2⟩
  · rw [e1, e2, if_neg one_n0, if_neg one_n0]
    obtain ⟨k, _, hk, rfl⟩ := inR_of i1
    have hT := now_T hn
    refine ⟨nI (u (35 + k)), ?_, ?_⟩
    · rw [vin_t (by omega) (by decide), gd_t, nI_clamp (by omega)]
      exact congrArg some (hn.1.2.2 k hk).1
    · rw [n32_35, nI_add, vin_t (by omega) (by decide), gd_t, nI_clamp (by omega), hn.2.1 _ (by omega)]
  · rw [e1, e2, if_pos rfl, if_pos rfl]
    exact ⟨_, rfl, rfl⟩
theorem op_trace {σx σm : Sto} (h : Inv σx σm) (a1 : Int32) : ∃ r, fX9_trace σx a1 = some r ∧ fX10_trace σm a1 = some r := by
  obtain ⟨t, h1, h2, h3, h4⟩ := h.2.2.2.2.2.1
  unfold fX9_trace fX10_trace
  rw [h2, h3]
  rcases g_lt (x := a1) (T := t) rfl (by omega) with ⟨i1, e1, e2⟩ | ⟨i1, e1, e2⟩
  · rw [e2, if_neg one_n0]
    obtain ⟨k, _, hk, rfl⟩ := inR_of i1
    rw [if_neg (nI_pos (by omega)), if_neg (nI_ge hk (by omega)), vin_t (by omega) (by decide), gd_t, nI_clamp (by omega), gd_t, h4 k hk]
    exact ⟨_, rfl, rfl⟩
  · rw [e2, if_pos rfl]
    by_cases c : a1 < (0 : Int32)
    · rw [if_pos c]
      exact ⟨_, rfl, rfl⟩
    · rw [if_neg c] at e1 ⊢
      by_cases c2 : nI t ≤ a1
      · rw [if_pos c2]
        exact ⟨_, rfl, rfl⟩
      · rw [if_neg c2] at e1
        exact absurd e1 one_n0
theorem op_stand {σx σm : Sto} (h : Inv σx σm) (a1 : Int32) : ∃ r, fX9_stand σx a1 = some r ∧ fX10_stand σm a1 = some r := by
  obtain ⟨u, hn⟩ := h.1
  unfold fX9_stand fX10_stand
  rcases g_str hn with ⟨ok, e1, e2⟩ | ⟨e1, e2⟩
  · rw [e1, e2, if_neg one_n0, if_neg one_n0, standing_X hn.1 ok.1, stones_X hn.1 ok.1, show fX8_allAt σx 36 20 = _ from out_X hn.1 ok.1, show fX10_those σm 4 0 = _ from those_M (s := 0) hn.2.1 ok.1 (by decide), show fX10_those σm 4 2 = _ from those_M (s := 2) hn.2.1 ok.1 (by decide), show fX10_those σm 4 1 = _ from those_M (s := 1) hn.2.1 ok.1 (by decide), hn.1.1 0 (by decide), hn.1.1 2 (by decide), hn.1.1 3 (by decide), hn.2.1 0 (by decide), hn.2.1 2 (by decide), hn.2.1 3 (by decide)]
    apply ex2 rfl
    repeat' split
    all_goals exact ⟨_, rfl⟩
  · rw [e1, e2, if_pos rfl, if_pos rfl]
    exact ⟨_, rfl, rfl⟩
theorem op_roomOf {σx σm : Sto} (h : Inv σx σm) (a1 : Int32) (a2 : Int32) : ∃ r, fX9_roomOf σx a1 a2 = some r ∧ fX10_roomOf σm a1 a2 = some r := by
  obtain ⟨u, hn⟩ := h.1
  unfold fX9_roomOf fX10_roomOf
  rcases g_room hn a1 with ⟨i1, ok, e1, e2⟩ | ⟨_, e1, e2⟩
  · rw [e1, e2, if_neg one_n0, if_neg one_n0]
    obtain ⟨r, _, hr, rfl⟩ := inR_of i1
    have hT := now_T hn
    obtain ⟨x1, x2, x3⟩ := hn.1.2.1 r hr
    have x1 : σx 37 r = nI (u (5 + r)) := x1
    have x2 : σx 38 r = nI (u (15 + r)) := x2
    have x3 : σx 39 r = nI (u (25 + r)) := x3
    rw [n32_30, n32_5, n32_15, n32_25]
    simp only [nI_add]
    rw [vin_t (show r < 10 by omega) (by decide), vin_t (show 5 + r < 59 by omega) (by decide), vin_t (show 15 + r < 59 by omega) (by decide), vin_t (show 25 + r < 59 by omega) (by decide)]
    simp only [gd_t]
    rw [nI_clamp (show r < _ by omega), nI_clamp (show 5 + r < _ by omega), nI_clamp (show 15 + r < _ by omega), nI_clamp (show 25 + r < _ by omega), x1, x2, x3, hn.2.1 _ (by omega), hn.2.1 _ (by omega), hn.2.1 _ (by omega), in_X hn.1 ok.1 (by omega), st_X hn.1 ok.1 (by omega), show fX10_thoseIn σm (nI r) 0 = _ from thoseIn_M (s := 0) hn.2.1 ok.1 (by decide) (by omega), show fX10_thoseIn σm (nI r) 2 = _ from thoseIn_M (s := 2) hn.2.1 ok.1 (by decide) (by omega)]
    have fin : ∀ (A B C D E F : Int32), ∃ r, (if a2 = 0 then some A else if a2 = 1 then some B else if a2 = 2 then some C else if a2 = 3 then bd (some D) fun q => some q else if a2 = 4 then bd (some E) fun q => some q else some F) = some r := fun A B C D E F => by
      repeat' split
      all_goals exact ⟨_, rfl⟩
    obtain ⟨r', hr'⟩ := fin (nI (u (5 + r))) (nI (u (15 + r))) (nI (u (25 + r))) (nI (btN (fun k => u (53 + k) == 0 && u (47 + k) == r) (u 1))) (nI (btN (fun k => u (53 + k) == 2 && u (47 + k) == r) (u 1))) (-1000001)
    exact ⟨r', hr', hr'⟩
  · rw [e1, e2, if_pos rfl, if_pos rfl]
    exact ⟨_, rfl, rfl⟩
theorem op_thing {σx σm : Sto} (h : Inv σx σm) (a1 : Int32) (a2 : Int32) : ∃ r, fX9_thing σx a1 a2 = some r ∧ fX10_thing σm a1 a2 = some r := by
  obtain ⟨u, hn⟩ := h.1
  unfold fX9_thing fX10_thing
  rcases g_thing hn a1 with ⟨i1, ok, e1, e2⟩ | ⟨_, e1, e2⟩
  · rw [e1, e2, if_neg one_n0, if_neg one_n0]
    obtain ⟨k, _, hk, rfl⟩ := inR_of i1
    have hT := now_T hn
    obtain ⟨x1, x2, x3, x4⟩ := hn.1.2.2 k hk
    have x2 : σx 41 k = nI (u (41 + k)) := x2
    have x3 : σx 42 k = nI (whN u k) := x3
    have x4 : σx 43 k = nI (u (47 + k)) := x4
    obtain ⟨a1, a2', a3, a4, a5, a6⟩ := ok.1.2.2.2.2.2.2.2.2.2.2.2 k hk
    have hw := (wh_is ok.1 hk).1
    have hwb := (ok_wh ok.1 hk).1
    have x5 : σx 38 (u (47 + k)) = nI (u (15 + u (47 + k))) := (hn.1.2.1 (u (47 + k)) a5).2.1
    rw [whereOf_M hn.2.1 (by omega) a6, vin_t (show k < 6 by omega) (by decide), n32_41, n32_53, n32_47, n32_15]
    simp only [nI_add]
    rw [vin_t (show 41 + k < 59 by omega) (by decide), vin_t (show 53 + k < 59 by omega) (by decide), vin_t (show 47 + k < 59 by omega) (by decide)]
    simp only [gd_t]
    rw [nI_clamp (show k < _ by omega), nI_clamp (show 41 + k < _ by omega), nI_clamp (show 53 + k < _ by omega), nI_clamp (show 47 + k < _ by omega), x2, x3, x4, hn.2.1 _ (by omega), hn.2.1 _ (by omega), hn.2.1 _ (by omega), vin_t (show u (47 + k) < 10 by omega) (by decide)]
    simp only [nI_add]
    rw [vin_t (show 15 + u (47 + k) < 59 by omega) (by decide), gd_t, gd_t, nI_clamp (show u (47 + k) < _ by omega), nI_clamp (show 15 + u (47 + k) < _ by omega), x5, hn.2.1 _ (by omega), bd_s]
    have c20 : nI (whN u k) = (20 : Int32) ↔ nI (u (53 + k)) = (1 : Int32) := by
      rw [n32_20, n32_1, nI_eq (by omega) (by decide), nI_eq (by omega) (by decide)]
      exact hw
    have hlast : (if nI (whN u k) = (20 : Int32) then some (0 : Int32) else some (nI (u (15 + u (47 + k))))) = (if nI (u (53 + k)) = (1 : Int32) then some (0 : Int32) else some (nI (u (15 + u (47 + k))))) := by
      by_cases c : nI (u (53 + k)) = (1 : Int32)
      · rw [if_pos c, if_pos (c20.mpr c)]
      · rw [if_neg c, if_neg (fun q => c (c20.mp q))]
    rw [hlast]
    have hsome : ∃ z, (if nI (u (53 + k)) = (1 : Int32) then some (0 : Int32) else some (nI (u (15 + u (47 + k))))) = some z := by
      split
      · exact ⟨_, rfl⟩
      · exact ⟨_, rfl⟩
    obtain ⟨z, hz⟩ := hsome
    rw [hz]
    rcases g_in (x := a2) (a := 0) (b := 2) (ax := 0) (bx := 2) (A := 0) (B := 2) rfl rfl rfl rfl (by decide) (by decide) with ⟨i2, _, e2⟩ | ⟨i2, _, e2⟩
    · rw [e2, if_neg one_n0]
      obtain ⟨q, _, hq, rfl⟩ := inR_of i2
      match q, hq with
      | 0, _ => exact ⟨_, rfl, rfl⟩
      | 1, _ => exact ⟨_, rfl, rfl⟩
      | 2, _ => exact ⟨_, rfl, rfl⟩
    · rw [e2, if_pos rfl, if_neg (fun q => i2 (by rw [q]; exact ⟨by decide, by decide⟩)), if_neg (fun q => i2 (by rw [q]; exact ⟨by decide, by decide⟩)), if_neg (fun q => i2 (by rw [q]; exact ⟨by decide, by decide⟩))]
      exact ⟨_, rfl, rfl⟩
  · rw [e1, e2, if_pos rfl, if_pos rfl]
    exact ⟨_, rfl, rfl⟩
