/-! a street in natural numbers: u 0 rooms, 1 things, 2 feed, 3 stop, 4 day, 5.. floors, 15.. lava, 25.. walls, 35.. sorts, 41.. highs, 47.. rooms, 53.. states -/
theorem vu_self {α : Type} (f : Nat → α) (k : Nat) (x : α) : va_up f k x k = x := if_pos rfl
theorem vu_ne {α : Type} {f : Nat → α} {k j : Nat} {x : α} (h : j ≠ k) : va_up f k x j = f j := if_neg h
def smN (L : Nat → Nat) : Nat → Nat
  | 0 => 0
  | n + 1 => smN L n + L n
theorem sm_up_hi {L : Nat → Nat} {r x : Nat} : ∀ {n : Nat}, n ≤ r → smN (va_up L r x) n = smN L n
  | 0, _ => rfl
  | n + 1, h => by
    show smN (va_up L r x) n + va_up L r x n = _
    rw [sm_up_hi (by omega), vu_ne (by omega)]
    rfl
theorem sm_up {L : Nat → Nat} {r x : Nat} : ∀ {n : Nat}, r < n → smN (va_up L r x) n + L r = smN L n + x
  | 0, h => by omega
  | n + 1, h => by
    show smN (va_up L r x) n + va_up L r x n + L r = smN L n + L n + x
    by_cases e : r = n
    · subst e
      rw [sm_up_hi (Nat.le_refl _), vu_self]
      omega
    · have := sm_up (L := L) (x := x) (n := n) (r := r) (by omega)
      rw [vu_ne (by omega)]
      omega
theorem sm_le {L : Nat → Nat} {r : Nat} : ∀ {n : Nat}, r < n → L r ≤ smN L n
  | 0, h => by omega
  | n + 1, h => by
    show L r ≤ smN L n + L n
    by_cases e : r = n
    · subst e
      omega
    · have := sm_le (L := L) (n := n) (r := r) (by omega)
      omega
theorem sm_congr {L M : Nat → Nat} : ∀ {n : Nat}, (∀ r, r < n → L r = M r) → smN L n = smN M n
  | 0, _ => rfl
  | n + 1, h => by
    show smN L n + L n = smN M n + M n
    rw [sm_congr (fun r hr => h r (by omega)), h n (by omega)]
theorem sm_more {L : Nat → Nat} {n : Nat} : ∀ {m : Nat}, (∀ r, n ≤ r → r < n + m → L r = 0) → smN L (n + m) = smN L n
  | 0, _ => rfl
  | m + 1, h => by
    show smN L (n + m) + L (n + m) = _
    rw [sm_more (fun r h1 h2 => h r h1 (by omega)), h (n + m) (by omega) (by omega)]
    rfl
/-- what goes on from room r -/
def nxN (R : Nat) (fl : Nat → Nat) (r : Nat) (L : Nat → Nat) : Nat := if r + 1 = R then 0 else fl (r + 1) + L (r + 1)
def goN (R : Nat) (fl wa : Nat → Nat) (r : Nat) (L : Nat → Nat) : Nat := min ((fl r + L r - (wa r + nxN R fl r L)) / 2) (L r)
def stF (R : Nat) (fl wa : Nat → Nat) (r : Nat) (L : Nat → Nat) : Nat → Nat :=
  if fl r + L r < wa r + nxN R fl r L + 2 then L
  else if r + 1 = R then va_up L r (L r - goN R fl wa r L)
  else va_up (va_up L r (L r - goN R fl wa r L)) (r + 1) (L (r + 1) + goN R fl wa r L)
def flF (R : Nat) (fl wa : Nat → Nat) : Nat → (Nat → Nat) → (Nat → Nat)
  | 0, L => L
  | n + 1, L => stF R fl wa n (flF R fl wa n L)
theorem go_le (R : Nat) (fl wa : Nat → Nat) (r : Nat) (L : Nat → Nat) : goN R fl wa r L ≤ L r := Nat.min_le_right _ _
theorem sm_stF {R : Nat} {fl wa : Nat → Nat} {r : Nat} {L : Nat → Nat} (h : r < R) : smN (stF R fl wa r L) R ≤ smN L R := by
  have hg := go_le R fl wa r L
  unfold stF
  by_cases h1 : fl r + L r < wa r + nxN R fl r L + 2
  · rw [if_pos h1]
    exact Nat.le_refl _
  · rw [if_neg h1]
    have h3 := sm_up (L := L) (x := L r - goN R fl wa r L) h
    by_cases h2 : r + 1 = R
    · rw [if_pos h2]
      omega
    · rw [if_neg h2]
      have h4 := sm_up (L := va_up L r (L r - goN R fl wa r L)) (r := r + 1) (x := L (r + 1) + goN R fl wa r L) (n := R) (by omega)
      rw [vu_ne (show r + 1 ≠ r by omega)] at h4
      omega
theorem sm_flF {R : Nat} {fl wa : Nat → Nat} {L : Nat → Nat} : ∀ {n : Nat}, n ≤ R → smN (flF R fl wa n L) R ≤ smN L R
  | 0, _ => Nat.le_refl _
  | n + 1, h => Nat.le_trans (sm_stF (by omega)) (sm_flF (by omega))
theorem stF_hi {R : Nat} {fl wa : Nat → Nat} {r j : Nat} {L : Nat → Nat} (h : r < R) (hj : R ≤ j) : stF R fl wa r L j = L j := by
  unfold stF
  split
  · rfl
  · split
    · rw [vu_ne (by omega)]
    · rw [vu_ne (by omega), vu_ne (by omega)]
theorem flF_hi {R : Nat} {fl wa : Nat → Nat} {j : Nat} {L : Nat → Nat} (hj : R ≤ j) : ∀ {n : Nat}, n ≤ R → flF R fl wa n L j = L j
  | 0, _ => rfl
  | n + 1, h => by
    show stF R fl wa n (flF R fl wa n L) j = _
    rw [stF_hi (by omega) hj, flF_hi hj (by omega)]
theorem stF_congr {R : Nat} {fl wa fl' wa' : Nat → Nat} {r : Nat} {L M : Nat → Nat} (hr : r < R) (hf : ∀ i, i < R → fl i = fl' i) (hw : ∀ i, i < R → wa i = wa' i) (hL : ∀ i, i < R → L i = M i) : ∀ i, i < R → stF R fl wa r L i = stF R fl' wa' r M i := by
  have e1 : nxN R fl r L = nxN R fl' r M := by
    unfold nxN
    by_cases h : r + 1 = R
    · rw [if_pos h, if_pos h]
    · rw [if_neg h, if_neg h, hf _ (by omega), hL _ (by omega)]
  have e2 : goN R fl wa r L = goN R fl' wa' r M := by
    unfold goN
    rw [e1, hf r hr, hw r hr, hL r hr]
  intro i hi
  unfold stF
  rw [e1, e2, hf r hr, hw r hr, hL r hr]
  split
  · exact hL i hi
  · split
    · unfold va_up
      rw [hL i hi]
    · unfold va_up
      rw [hL i hi, hL (r + 1) (by omega)]
theorem flF_congr {R : Nat} {fl wa fl' wa' : Nat → Nat} {L M : Nat → Nat} (hf : ∀ i, i < R → fl i = fl' i) (hw : ∀ i, i < R → wa i = wa' i) (hL : ∀ i, i < R → L i = M i) : ∀ {n : Nat}, n ≤ R → ∀ i, i < R → flF R fl wa n L i = flF R fl' wa' n M i
  | 0, _, i, hi => hL i hi
  | n + 1, h, i, hi => stF_congr (by omega) hf hw (flF_congr hf hw hL (by omega)) i hi
/-- the lava behind a day; by how many rooms a thing goes on; where it is then -/
def fdN (u : Nat → Nat) : Nat → Nat := fun r => if r = 0 ∧ u 4 < u 3 then u 15 + u 2 else u (15 + r)
def lavN (u : Nat → Nat) : Nat → Nat := flF (u 0) (fun r => u (5 + r)) (fun r => u (25 + r)) (u 0) (fdN u)
def pcN (so ro : Nat) (L : Nat → Nat) (d : Nat) : Nat :=
  if so = 2 then (if 0 < L ro then 2 else 0)
  else if so = 3 then (if d % 2 = 0 ∧ (0 < L ro ∨ 1 ≤ ro ∧ 0 < L (ro - 1)) then 1 else 0)
  else if so = 4 then (if 0 < L ro ∨ 1 ≤ ro ∧ 0 < L (ro - 1) ∨ 2 ≤ ro ∧ 0 < L (ro - 2) then 1 else 0)
  else if so = 5 then (if 0 < L ro then 2 else if 1 ≤ ro ∧ 0 < L (ro - 1) ∨ 2 ≤ ro ∧ 0 < L (ro - 2) then 1 else 0)
  else (if 0 < L ro ∨ 1 ≤ ro ∧ 0 < L (ro - 1) then 1 else 0)
def plN (R : Nat) (L : Nat → Nat) (d so hi p : Nat) : Nat := if 20 ≤ p then p else if R ≤ p + pcN so p L d then 20 else if hi ≤ L (p + pcN so p L d) then 30 + (p + pcN so p L d) else p + pcN so p L d
def whN (u : Nat → Nat) (k : Nat) : Nat := if u (53 + k) = 1 then 20 else if u (53 + k) = 2 then 30 + u (47 + k) else u (47 + k)
def toN (u : Nat → Nat) (k : Nat) : Nat := u (47 + k) + pcN (u (35 + k)) (u (47 + k)) (lavN u) (u 4)
def roN (u : Nat → Nat) (k : Nat) : Nat := if k < u 1 ∧ u (53 + k) = 0 then (if u 0 ≤ toN u k then u (47 + k) else toN u k) else u (47 + k)
def isN (u : Nat → Nat) (k : Nat) : Nat := if k < u 1 ∧ u (53 + k) = 0 then (if u 0 ≤ toN u k then 1 else if u (41 + k) ≤ lavN u (toN u k) then 2 else 0) else u (53 + k)
def dayN (u : Nat → Nat) : Nat → Nat := fun j => if j = 4 then u 4 + 1 else if 15 ≤ j ∧ j < 25 then lavN u (j - 15) else if 47 ≤ j ∧ j < 53 then roN u (j - 47) else if 53 ≤ j ∧ j < 59 then isN u (j - 53) else u j
theorem pc_le (so ro : Nat) (L : Nat → Nat) (d : Nat) : pcN so ro L d ≤ 2 := by
  unfold pcN
  repeat' split
  all_goals omega
theorem day_lo {u : Nat → Nat} {j : Nat} (h : j < 15) (h4 : j ≠ 4) : dayN u j = u j := by
  simp only [dayN]
  rw [if_neg h4, if_neg (by omega), if_neg (by omega), if_neg (by omega)]
theorem day_4 (u : Nat → Nat) : dayN u 4 = u 4 + 1 := if_pos rfl
theorem day_la {u : Nat → Nat} {r : Nat} (h : r < 10) : dayN u (15 + r) = lavN u r := by
  simp only [dayN]
  rw [if_neg (by omega), if_pos (by omega), Nat.add_sub_cancel_left]
theorem day_mid {u : Nat → Nat} {j : Nat} (h : 25 ≤ j) (h2 : j < 47) : dayN u j = u j := by
  simp only [dayN]
  rw [if_neg (by omega), if_neg (by omega), if_neg (by omega), if_neg (by omega)]
theorem day_ro {u : Nat → Nat} {k : Nat} (h : k < 6) : dayN u (47 + k) = roN u k := by
  simp only [dayN]
  rw [if_neg (by omega), if_neg (by omega), if_pos (by omega), Nat.add_sub_cancel_left]
theorem day_is {u : Nat → Nat} {k : Nat} (h : k < 6) : dayN u (53 + k) = isN u k := by
  simp only [dayN]
  rw [if_neg (by omega), if_neg (by omega), if_neg (by omega), if_pos (by omega), Nat.add_sub_cancel_left]
/-- a street that may stand -/
def okV (u : Nat → Nat) : Prop := 3 ≤ u 0 ∧ u 0 ≤ 10 ∧ 1 ≤ u 1 ∧ u 1 ≤ 6 ∧ u 2 ≤ 20 ∧ u 3 ≤ 60 ∧ u 4 ≤ 2000 ∧ (∀ r, r < 10 → u (5 + r) ≤ 9) ∧ (∀ r, r < 10 → u (25 + r) ≤ 9) ∧ (∀ r, u 0 ≤ r → r < 10 → u (15 + r) = 0) ∧ smN (fun r => u (15 + r)) (u 0) ≤ 20 * u 4 ∧ (∀ k, k < u 1 → 1 ≤ u (35 + k) ∧ u (35 + k) ≤ 5 ∧ 1 ≤ u (41 + k) ∧ u (41 + k) ≤ 9 ∧ u (47 + k) < u 0 ∧ u (53 + k) ≤ 2)
theorem ok_la {u : Nat → Nat} (h : okV u) {r : Nat} (hr : r < 10) : u (15 + r) ≤ 40000 := by
  obtain ⟨h0, h1, h2, h3, h4, h5, h6, h7, h8, h9, h10, h11⟩ := h
  by_cases hR : u 0 ≤ r
  · rw [h9 r hR hr]
    omega
  · have := sm_le (L := fun r => u (15 + r)) (r := r) (n := u 0) (by omega)
    omega
theorem sm_fd {u : Nat → Nat} (h : okV u) : smN (fdN u) (u 0) ≤ 20 * (u 4 + 1) := by
  obtain ⟨h0, h1, h2, h3, h4, h5, h6, h7, h8, h9, h10, h11⟩ := h
  by_cases hd : u 4 < u 3
  · have e : smN (fdN u) (u 0) = smN (va_up (fun r => u (15 + r)) 0 (u 15 + u 2)) (u 0) := sm_congr (fun r hr => by
      unfold fdN va_up
      by_cases hz : r = 0
      · rw [if_pos ⟨hz, hd⟩, if_pos hz]
      · rw [if_neg (fun q => hz q.1), if_neg hz])
    have := sm_up (L := fun r => u (15 + r)) (r := 0) (x := u 15 + u 2) (n := u 0) (by omega)
    have e2 : u (15 + 0) = u 15 := rfl
    rw [e2] at this
    omega
  · have e : smN (fdN u) (u 0) = smN (fun r => u (15 + r)) (u 0) := sm_congr (fun r hr => by
      unfold fdN
      rw [if_neg (fun q => hd q.2)])
    omega
theorem sm_lav {u : Nat → Nat} (h : okV u) : smN (lavN u) (u 0) ≤ 20 * (u 4 + 1) := Nat.le_trans (sm_flF (Nat.le_refl _)) (sm_fd h)
theorem lav_hi {u : Nat → Nat} (h : okV u) {r : Nat} (h1 : u 0 ≤ r) (h2 : r < 10) : lavN u r = 0 := by
  unfold lavN
  rw [flF_hi h1 (Nat.le_refl _)]
  unfold fdN
  rw [if_neg (fun q => by have := h.1; omega)]
  exact h.2.2.2.2.2.2.2.2.2.1 r h1 h2
theorem ok_day {u : Nat → Nat} (h : okV u) (hd : u 4 < 2000) : okV (dayN u) := by
  have hs := sm_lav h
  have hh := @lav_hi u h
  obtain ⟨h0, h1, h2, h3, h4, h5, h6, h7, h8, h9, h10, h11⟩ := h
  have e0 : dayN u 0 = u 0 := day_lo (by omega) (by omega)
  have e1 : dayN u 1 = u 1 := day_lo (by omega) (by omega)
  refine ⟨by omega, by omega, by omega, by omega, by rw [day_lo (by omega) (by omega)]; exact h4, by rw [day_lo (by omega) (by omega)]; exact h5, by rw [day_4]; omega, fun r hr => by rw [day_lo (by omega) (by omega)]; exact h7 r hr, fun r hr => by rw [day_mid (by omega) (by omega)]; exact h8 r hr, fun r hr hr2 => by rw [day_la hr2]; exact hh (by omega) hr2, ?_, fun k hk => ?_⟩
  · rw [e0, day_4, sm_congr (M := lavN u) (fun r hr => day_la (by omega))]
    exact hs
  · rw [e1] at hk
    have hk6 : k < 6 := by omega
    obtain ⟨a1, a2, a3, a4, a5, a6⟩ := h11 k hk
    rw [day_mid (j := 35 + k) (by omega) (by omega), day_mid (j := 41 + k) (by omega) (by omega), day_ro hk6, day_is hk6, e0]
    refine ⟨a1, a2, a3, a4, ?_, ?_⟩
    · unfold roN
      split
      · split <;> omega
      · exact a5
    · unfold isN
      split
      · split
        · omega
        · split <;> omega
      · exact a6
theorem wh_day {u : Nat → Nat} {k : Nat} (h : okV u) (hk : k < u 1) : whN (dayN u) k = plN (u 0) (lavN u) (u 4) (u (35 + k)) (u (41 + k)) (whN u k) := by
  obtain ⟨h0, h1, h2, h3, h4, h5, h6, h7, h8, h9, h10, h11⟩ := h
  obtain ⟨a1, a2, a3, a4, a5, a6⟩ := h11 k hk
  have hk6 : k < 6 := by omega
  unfold whN
  rw [day_ro hk6, day_is hk6]
  by_cases e1 : u (53 + k) = 1
  · have e2 : ¬ (k < u 1 ∧ u (53 + k) = 0) := fun q => by omega
    have i1 : isN u k = 1 := by
      unfold isN
      rw [if_neg e2, e1]
    rw [i1, if_pos rfl, if_pos e1]
    rfl
  · by_cases e3 : u (53 + k) = 2
    · have e2 : ¬ (k < u 1 ∧ u (53 + k) = 0) := fun q => by omega
      have i1 : isN u k = 2 := by
        unfold isN
        rw [if_neg e2, e3]
      have i2 : roN u k = u (47 + k) := by
        unfold roN
        rw [if_neg e2]
      rw [i1, i2, if_neg (by decide), if_pos rfl, if_neg e1, if_pos e3]
      unfold plN
      rw [if_pos (by omega)]
    · have e2 : k < u 1 ∧ u (53 + k) = 0 := ⟨hk, by omega⟩
      have i1 : isN u k = (if u 0 ≤ toN u k then 1 else if u (41 + k) ≤ lavN u (toN u k) then 2 else 0) := by
        unfold isN
        rw [if_pos e2]
      have i2 : roN u k = (if u 0 ≤ toN u k then u (47 + k) else toN u k) := by
        unfold roN
        rw [if_pos e2]
      have i3 : plN (u 0) (lavN u) (u 4) (u (35 + k)) (u (41 + k)) (u (47 + k)) = if u 0 ≤ toN u k then 20 else if u (41 + k) ≤ lavN u (toN u k) then 30 + toN u k else toN u k := by
        unfold plN
        rw [if_neg (show ¬ 20 ≤ u (47 + k) by omega)]
        rfl
      rw [i1, i2, if_neg e1, if_neg e3, i3]
      by_cases c1 : u 0 ≤ toN u k
      · simp [c1]
      · by_cases c2 : u (41 + k) ≤ lavN u (toN u k)
        · simp [c1, c2]
        · simp [c1, c2]
def dysN : Nat → (Nat → Nat) → (Nat → Nat)
  | 0, u => u
  | n + 1, u => dayN (dysN n u)
theorem ok_dys {u : Nat → Nat} (h : okV u) : ∀ {n : Nat}, u 4 + n ≤ 2000 → okV (dysN n u) ∧ dysN n u 4 = u 4 + n
  | 0, _ => ⟨h, rfl⟩
  | n + 1, hn => by
    obtain ⟨h1, h2⟩ := ok_dys h (n := n) (by omega)
    exact ⟨ok_day h1 (by omega), by show dayN _ 4 = _; rw [day_4, h2]; omega⟩
theorem dys_lo {u : Nat → Nat} {j : Nat} (h : j < 15) (h4 : j ≠ 4) : ∀ n, dysN n u j = u j
  | 0 => rfl
  | n + 1 => (day_lo h h4).trans (dys_lo h h4 n)
theorem dys_mid {u : Nat → Nat} {j : Nat} (h : 25 ≤ j) (h2 : j < 47) : ∀ n, dysN n u j = u j
  | 0 => rfl
  | n + 1 => (day_mid h h2).trans (dys_mid h h2 n)
/-- sets as bits -/
def btN (p : Nat → Bool) : Nat → Nat
  | 0 => 0
  | n + 1 => btN p n + (if p n then 2 ^ n else 0)
theorem bt_lt (p : Nat → Bool) : ∀ n, btN p n < 2 ^ n
  | 0 => Nat.zero_lt_one
  | n + 1 => by
    have := bt_lt p n
    have e : 2 ^ (n + 1) = 2 * 2 ^ n := by rw [Nat.pow_succ, Nat.mul_comm]
    show btN p n + _ < _
    rw [e]
    split <;> omega
theorem bt_or (p : Nat → Bool) (n : Nat) (h : p n = true) : btN p n ||| 2 ^ n = btN p (n + 1) := by
  show _ = btN p n + _
  rw [if_pos h, Nat.or_comm, Nat.add_comm]
  have := Nat.two_pow_add_eq_or_of_lt (bt_lt p n) 1
  rw [Nat.mul_one] at this
  exact this.symm
theorem bt_no (p : Nat → Bool) (n : Nat) (h : p n = false) : btN p n = btN p (n + 1) := by
  show _ = btN p n + _
  rw [h]
  rfl
theorem bt_congr {p q : Nat → Bool} : ∀ {n : Nat}, (∀ k, k < n → p k = q k) → btN p n = btN q n
  | 0, _ => rfl
  | n + 1, h => by
    show btN p n + _ = btN q n + _
    rw [bt_congr (fun k hk => h k (by omega)), h n (by omega)]
