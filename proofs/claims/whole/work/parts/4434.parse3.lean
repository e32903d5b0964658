/-! how a street is read: rooms and things are put down -/
/-- a street that is being told -/
def DW (w : Nat → Nat) : Prop := w 0 ≤ 10 ∧ w 1 ≤ 6 ∧ w 2 ≤ 20 ∧ w 3 ≤ 60 ∧ w 4 = 0 ∧ (∀ r, r < 10 → w (5 + r) ≤ 9) ∧ (∀ j, 15 ≤ j → j < 35 → w j = 0) ∧ (∀ k, k < 6 → w (53 + k) = 0) ∧ ∀ k, k < w 1 → 1 ≤ w (35 + k) ∧ w (35 + k) ≤ 5 ∧ 1 ≤ w (41 + k) ∧ w (41 + k) ≤ 9 ∧ w (47 + k) < w 0
theorem sm_z {L : Nat → Nat} : ∀ {n : Nat}, (∀ r, r < n → L r = 0) → smN L n = 0
  | 0, _ => rfl
  | n + 1, h => by
    show smN L n + L n = 0
    rw [sm_z (fun r hr => h r (by omega)), h n (by omega)]
theorem DW_ok {w : Nat → Nat} (h : DW w) (h0 : 3 ≤ w 0) (h1 : 1 ≤ w 1) : okD w := by
  obtain ⟨d0, d1, d2, d3, d4, d5, d6, d7, d8⟩ := h
  refine ⟨⟨h0, d0, h1, d1, d2, d3, by omega, d5, fun r hr => by rw [d6 _ (by omega) (by omega)]; omega, fun r _ hr => d6 _ (by omega) (by omega), by rw [sm_z (fun r hr => d6 _ (by omega) (by omega))]; omega, fun k hk => ?_⟩, by omega⟩
  obtain ⟨a1, a2, a3, a4, a5⟩ := d8 k hk
  exact ⟨a1, a2, a3, a4, a5, by rw [d7 k (by omega)]; omega⟩
def rmW (w : Nat → Nat) (v : Nat) : Nat → Nat := va_up (va_up w 0 (w 0 + 1)) (5 + w 0) v
theorem DW_rm {w : Nat → Nat} {v : Nat} (h : DW w) (h0 : w 0 < 10) (h1 : w 1 = 0) (hv : v ≤ 9) : DW (rmW w v) ∧ rmW w v 0 = w 0 + 1 ∧ rmW w v 1 = 0 := by
  obtain ⟨d0, d1, d2, d3, d4, d5, d6, d7, d8⟩ := h
  unfold rmW
  have e0 : va_up (va_up w 0 (w 0 + 1)) (5 + w 0) v 0 = w 0 + 1 := by rw [vu_ne (by omega), vu_self]
  have eo : ∀ j, j ≠ 0 → j ≠ 5 + w 0 → va_up (va_up w 0 (w 0 + 1)) (5 + w 0) v j = w j := fun j a b => by rw [vu_ne b, vu_ne a]
  refine ⟨⟨by rw [e0]; omega, by rw [eo 1 (by omega) (by omega)]; omega, by rw [eo 2 (by omega) (by omega)]; exact d2, by rw [eo 3 (by omega) (by omega)]; exact d3, by rw [eo 4 (by omega) (by omega)]; exact d4, fun r hr => ?_, fun j ha hb => by rw [eo j (by omega) (by omega)]; exact d6 j ha hb, fun k hk => by rw [eo _ (by omega) (by omega)]; exact d7 k hk, fun k hk => by rw [eo 1 (by omega) (by omega)] at hk; omega⟩, e0, by rw [eo 1 (by omega) (by omega)]; exact h1⟩
  by_cases e : r = w 0
  · rw [e, vu_self]
    exact hv
  · rw [eo _ (by omega) (by omega)]
    exact d5 r hr
def thW (w : Nat → Nat) (so ro hi : Nat) : Nat → Nat := va_up (va_up (va_up (va_up w (35 + w 1) so) 1 (w 1 + 1)) (47 + w 1) ro) (41 + w 1) hi
theorem th_e {w : Nat → Nat} {so ro hi : Nat} (h1 : w 1 < 6) : thW w so ro hi 1 = w 1 + 1 ∧ thW w so ro hi (35 + w 1) = so ∧ thW w so ro hi (41 + w 1) = hi ∧ thW w so ro hi (47 + w 1) = ro ∧ ∀ j, j ≠ 1 → j ≠ 35 + w 1 → j ≠ 41 + w 1 → j ≠ 47 + w 1 → thW w so ro hi j = w j := by
  unfold thW
  refine ⟨by rw [vu_ne (by omega), vu_ne (by omega), vu_self], by rw [vu_ne (by omega), vu_ne (by omega), vu_ne (by omega), vu_self], by rw [vu_self], by rw [vu_ne (by omega), vu_self], fun j a b c d => by rw [vu_ne c, vu_ne d, vu_ne a, vu_ne b]⟩
theorem DW_th {w : Nat → Nat} {so ro hi : Nat} (h : DW w) (h1 : w 1 < 6) (hs : 1 ≤ so ∧ so ≤ 5) (hr : ro < w 0) (hh : 1 ≤ hi ∧ hi ≤ 9) : DW (thW w so ro hi) ∧ thW w so ro hi 0 = w 0 ∧ thW w so ro hi 1 = w 1 + 1 := by
  obtain ⟨d0, d1, d2, d3, d4, d5, d6, d7, d8⟩ := h
  obtain ⟨e1, e35, e41, e47, eo⟩ := th_e (so := so) (ro := ro) (hi := hi) h1
  have e0 : thW w so ro hi 0 = w 0 := eo 0 (by omega) (by omega) (by omega) (by omega)
  refine ⟨⟨by rw [e0]; exact d0, by rw [e1]; omega, by rw [eo 2 (by omega) (by omega) (by omega) (by omega)]; exact d2, by rw [eo 3 (by omega) (by omega) (by omega) (by omega)]; exact d3, by rw [eo 4 (by omega) (by omega) (by omega) (by omega)]; exact d4, fun r hr => by rw [eo _ (by omega) (by omega) (by omega) (by omega)]; exact d5 r hr, fun j ha hb => by rw [eo j (by omega) (by omega) (by omega) (by omega)]; exact d6 j ha hb, fun k hk => by rw [eo _ (by omega) (by omega) (by omega) (by omega)]; exact d7 k hk, fun k hk => ?_⟩, e0, e1⟩
  rw [e1] at hk
  rw [e0]
  by_cases e : k = w 1
  · rw [e, e35, e41, e47]
    exact ⟨hs.1, hs.2, hh.1, hh.2, hr⟩
  · rw [eo _ (by omega) (by omega) (by omega) (by omega), eo _ (by omega) (by omega) (by omega) (by omega), eo _ (by omega) (by omega) (by omega) (by omega)]
    exact d8 k (by omega)
theorem addRoom_X {τ : Sto} {w : Nat → Nat} {v : Nat} (hx : VX τ 44 w) (hw : DW w) (h0 : w 0 < 10) (h1 : w 1 = 0) : ∃ τ', fX8_addRoom τ 44 (nI v) = some τ' ∧ VX τ' 44 (rmW w v) ∧ ∀ k, (k < 44 ∨ 52 ≤ k) → τ' k = τ k := by
  obtain ⟨x1, x2, x3⟩ := hx
  obtain ⟨d0, d1, d2, d3, d4, d5, d6, d7, d8⟩ := hw
  have e0 : rmW w v 0 = w 0 + 1 := by unfold rmW; rw [vu_ne (by omega), vu_self]
  have eo : ∀ j, j ≠ 0 → j ≠ 5 + w 0 → rmW w v j = w j := fun j a b => by unfold rmW; rw [vu_ne b, vu_ne a]
  have e5 : rmW w v (5 + w 0) = v := by unfold rmW; rw [vu_self]
  refine ⟨up (up (up (up τ 45 (w 0) (nI v)) 46 (w 0) 0) 47 (w 0) 0) 44 0 (nI (w 0 + 1)), ?_, ⟨fun i hi => ?_, fun r hr => ?_, fun k hk => ?_⟩, fun k hk => by rw [up_k (by omega), up_k (by omega), up_k (by omega), up_k (by omega)]⟩
  · unfold fX8_addRoom
    rw [x1 0 (by decide), n32_10, if_neg (nI_ge h0 (by decide)), vin_t h0 (by decide), gd_t, nI_clamp (by omega), un_e, up_k (show (44 : Nat) ≠ 44 + 1 by decide), x1 0 (by decide), vin_t h0 (by decide), gd_t, nI_clamp (by omega), un_e, up_k (show (44 : Nat) ≠ 44 + 2 by decide), up_k (show (44 : Nat) ≠ 44 + 1 by decide), x1 0 (by decide), vin_t h0 (by decide), gd_t, nI_clamp (by omega), un_e, up_k (show (44 : Nat) ≠ 44 + 3 by decide), up_k (show (44 : Nat) ≠ 44 + 2 by decide), up_k (show (44 : Nat) ≠ 44 + 1 by decide), x1 0 (by decide), n32_1, nI_add, un_e]
  · by_cases e : i = 0
    · rw [e, up_i, e0]
    · rw [up_j e, up_k (by decide), up_k (by decide), up_k (by decide), eo i e (by omega)]
      exact x1 i hi
  · rw [e0] at hr
    rw [up_k (show (44 + 1 : Nat) ≠ 44 by decide), up_k (show (44 + 1 : Nat) ≠ 47 by decide), up_k (show (44 + 1 : Nat) ≠ 46 by decide), up_k (show (44 + 2 : Nat) ≠ 44 by decide), up_k (show (44 + 2 : Nat) ≠ 47 by decide), up_k (show (44 + 3 : Nat) ≠ 44 by decide), eo (15 + r) (by omega) (by omega), eo (25 + r) (by omega) (by omega)]
    by_cases e : r = w 0
    · subst e
      rw [show up τ 45 (w 0) (nI v) (44 + 1) (w 0) = nI v from up_i, e5, show up (up τ 45 (w 0) (nI v)) 46 (w 0) 0 (44 + 2) (w 0) = 0 from up_i, show up (up (up τ 45 (w 0) (nI v)) 46 (w 0) 0) 47 (w 0) 0 (44 + 3) (w 0) = 0 from up_i, d6 (15 + w 0) (by omega) (by omega), d6 (25 + w 0) (by omega) (by omega)]
      exact ⟨rfl, rfl, rfl⟩
    · rw [show up τ 45 (w 0) (nI v) (44 + 1) r = τ 45 r from up_j e, show up (up τ 45 (w 0) (nI v)) 46 (w 0) 0 (44 + 2) r = up τ 45 (w 0) (nI v) 46 r from up_j e, show up (up (up τ 45 (w 0) (nI v)) 46 (w 0) 0) 47 (w 0) 0 (44 + 3) r = up (up τ 45 (w 0) (nI v)) 46 (w 0) 0 47 r from up_j e, up_k (by decide), up_k (by decide), up_k (by decide), eo (5 + r) (by omega) (by omega)]
      exact x2 r (by omega)
  · rw [eo 1 (by omega) (by omega), h1] at hk
    omega
theorem addThing_X {τ : Sto} {w : Nat → Nat} {so ro hi : Nat} (hx : VX τ 44 w) (hw : DW w) (h1 : w 1 < 6) (hr : ro < 10) : ∃ τ', fX8_addThing τ 44 (nI so) (nI ro) (nI hi) = some τ' ∧ VX τ' 44 (thW w so ro hi) ∧ ∀ k, (k < 44 ∨ 52 ≤ k) → τ' k = τ k := by
  obtain ⟨x1, x2, x3⟩ := hx
  obtain ⟨d0, d1, d2, d3, d4, d5, d6, d7, d8⟩ := hw
  obtain ⟨e1, e35, e41, e47, eo⟩ := th_e (so := so) (ro := ro) (hi := hi) h1
  have e0 : thW w so ro hi 0 = w 0 := eo 0 (by omega) (by omega) (by omega) (by omega)
  refine ⟨up (up (up (up (up τ 48 (w 1) (nI so)) 49 (w 1) (nI hi)) 50 (w 1) (nI ro)) 51 (w 1) (nI ro)) 44 1 (nI (w 1 + 1)), ?_, ⟨fun i hi => ?_, fun r hr => ?_, fun k hk => ?_⟩, fun k hk => by rw [up_k (by omega), up_k (by omega), up_k (by omega), up_k (by omega), up_k (by omega)]⟩
  · unfold fX8_addThing fX8_place
    rw [x1 1 (by decide), n32_6, if_neg (nI_ge h1 (by decide)), vin_t h1 (by decide), gd_t, nI_clamp (by omega), un_e, up_k (show (44 : Nat) ≠ 44 + 4 by decide), x1 1 (by decide), vin_t h1 (by decide), gd_t, nI_clamp (by omega), un_e, up_k (show (44 : Nat) ≠ 44 + 5 by decide), up_k (show (44 : Nat) ≠ 44 + 4 by decide), x1 1 (by decide), vin_t h1 (by decide), gd_t, nI_clamp (by omega), un_e, n32_20, if_neg (fun q => by have := (nI_eq (by omega) (by decide)).mp q; omega), if_neg (nI_ge (by omega) (by decide)), un_e, bd_s, up_k (show (44 : Nat) ≠ 44 + 7 by decide), up_k (show (44 : Nat) ≠ 44 + 6 by decide), up_k (show (44 : Nat) ≠ 44 + 5 by decide), up_k (show (44 : Nat) ≠ 44 + 4 by decide), x1 1 (by decide), n32_1, nI_add, un_e]
  · by_cases e : i = 1
    · rw [e, up_i, e1]
    · rw [up_j e, up_k (by decide), up_k (by decide), up_k (by decide), up_k (by decide), eo i e (by omega) (by omega) (by omega)]
      exact x1 i hi
  · rw [e0] at hr
    rw [up_k (by decide), up_k (by decide), up_k (by decide), up_k (by decide), up_k (by decide), up_k (by decide), up_k (by decide), up_k (by decide), up_k (by decide), up_k (by decide), up_k (by decide), up_k (by decide), up_k (by decide), up_k (by decide), up_k (by decide), eo _ (by omega) (by omega) (by omega) (by omega), eo _ (by omega) (by omega) (by omega) (by omega), eo _ (by omega) (by omega) (by omega) (by omega)]
    exact x2 r hr
  · rw [e1] at hk
    rw [up_k (show (44 + 4 : Nat) ≠ 44 by decide), up_k (show (44 + 4 : Nat) ≠ 51 by decide), up_k (show (44 + 4 : Nat) ≠ 50 by decide), up_k (show (44 + 4 : Nat) ≠ 49 by decide), up_k (show (44 + 5 : Nat) ≠ 44 by decide), up_k (show (44 + 5 : Nat) ≠ 51 by decide), up_k (show (44 + 5 : Nat) ≠ 50 by decide), up_k (show (44 + 6 : Nat) ≠ 44 by decide), up_k (show (44 + 6 : Nat) ≠ 51 by decide), up_k (show (44 + 7 : Nat) ≠ 44 by decide)]
    have e53 : thW w so ro hi (53 + k) = 0 := by
      rw [eo _ (by omega) (by omega) (by omega) (by omega)]
      exact d7 k (by omega)
    rw [wh_0 e53]
    by_cases e : k = w 1
    · subst e
      rw [e35, e41, e47]
      exact ⟨up_i, up_i, up_i, up_i⟩
    · rw [show up τ 48 (w 1) (nI so) (44 + 4) k = τ 48 k from up_j e, show up (up τ 48 (w 1) (nI so)) 49 (w 1) (nI hi) (44 + 5) k = up τ 48 (w 1) (nI so) 49 k from up_j e, show up (up (up τ 48 (w 1) (nI so)) 49 (w 1) (nI hi)) 50 (w 1) (nI ro) (44 + 6) k = up (up τ 48 (w 1) (nI so)) 49 (w 1) (nI hi) 50 k from up_j e, show up (up (up (up τ 48 (w 1) (nI so)) 49 (w 1) (nI hi)) 50 (w 1) (nI ro)) 51 (w 1) (nI ro) (44 + 7) k = up (up (up τ 48 (w 1) (nI so)) 49 (w 1) (nI hi)) 50 (w 1) (nI ro) 51 k from up_j e, up_k (by decide), up_k (by decide), up_k (by decide), up_k (by decide), up_k (by decide), up_k (by decide), eo (35 + k) (by omega) (by omega) (by omega) (by omega), eo (41 + k) (by omega) (by omega) (by omega) (by omega), eo (47 + k) (by omega) (by omega) (by omega) (by omega)]
      obtain ⟨y1, y2, y3, y4⟩ := x3 k (by omega)
      rw [wh_0 (d7 k (by omega))] at y3
      exact ⟨y1, y2, y3, y4⟩
/-- letters of sorts -/
def soN (c : Nat) : Nat := if c = 99 then 1 else if c = 108 then 2 else if c = 116 then 3 else if c = 112 then 4 else if c = 97 then 5 else 0
theorem sort_M {c : Nat} (hc : c < 256) : fX10_sortOf (nI c) = nI (soN c) := by
  have e : ∀ k : Nat, k < 256 → (nI c = nI k ↔ c = k) := fun k hk => nI_eq (by omega) (by omega)
  unfold fX10_sortOf soN
  rw [n32_99, show (108 : Int32) = nI 108 from rfl, show (116 : Int32) = nI 116 from rfl, show (112 : Int32) = nI 112 from rfl, show (97 : Int32) = nI 97 from rfl]
  simp only [e 99 (by decide), e 108 (by decide), e 116 (by decide), e 112 (by decide), e 97 (by decide)]
  repeat' split
  all_goals rfl
theorem so_eq (x : Int32) : fX6_sortOf x = fX10_sortOf x := by
  unfold fX6_sortOf fX10_sortOf
  by_cases h1 : x = 97
  · subst h1
    decide
  · by_cases h2 : x = 99
    · subst h2
      decide
    · by_cases h3 : x = 108
      · subst h3
        decide
      · by_cases h4 : x = 112
        · subst h4
          decide
        · by_cases h5 : x = 116
          · subst h5
            decide
          · rw [if_neg h1, if_neg h2, if_neg h3, if_neg h4, if_neg h5, if_neg h2, if_neg h3, if_neg h5, if_neg h4, if_neg h1]
theorem so_b (c : Nat) : soN c ≤ 5 ∧ (soN c ≠ 0 → 97 ≤ c ∧ c ≤ 122 ∧ c ≠ 114) := by
  unfold soN
  repeat' split
  all_goals omega
def nsN (s : Nat) (L : Nat → Nat) (a : Nat) : Nat := if a < s then soN (L a) else 0
theorem sort_X {s a : Nat} {L : Nat → Nat} (hL : a < s → L a < 256) : fX6_sortOf (if a < s then nI (L a) else -1) = nI (nsN s L a) := by
  unfold nsN
  by_cases c : a < s
  · rw [if_pos c, if_pos c, so_eq, sort_M (hL c)]
  · rw [if_neg c, if_neg c]
    decide
