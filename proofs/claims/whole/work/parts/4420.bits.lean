/-! how many bits, the least bit: of numbers below 2^24 -/
def pw : Nat → Nat → Nat
  | 0, _ => 0
  | k + 1, x => x % 2 + pw k (x / 2)
theorem pw_0 : ∀ {k x : Nat}, x < 2 ^ k → pw k x = 0 → x = 0
  | 0, x, h, _ => by
    have : x < 1 := h
    omega
  | k + 1, x, h, e => by
    have e' : x % 2 + pw k (x / 2) = 0 := e
    have h2 : x / 2 < 2 ^ k := by
      rw [Nat.pow_succ] at h
      omega
    have := pw_0 h2 (by omega)
    omega
theorem pw_z : ∀ k, pw k 0 = 0
  | 0 => rfl
  | k + 1 => by
    show 0 % 2 + pw k (0 / 2) = 0
    rw [Nat.zero_div, pw_z k]
theorem pw_le : ∀ k x, pw k x ≤ k
  | 0, _ => Nat.le_refl _
  | k + 1, x => by
    have := pw_le k (x / 2)
    show x % 2 + pw k (x / 2) ≤ k + 1
    omega
theorem pw_add : ∀ (j k x : Nat), pw (j + k) x = pw j (x % 2 ^ j) + pw k (x / 2 ^ j)
  | 0, k, x => by
    rw [Nat.zero_add, Nat.pow_zero, Nat.div_one]
    show _ = 0 + _
    rw [Nat.zero_add]
  | j + 1, k, x => by
    rw [show j + 1 + k = (j + k) + 1 by omega]
    show x % 2 + pw (j + k) (x / 2) = x % 2 ^ (j + 1) % 2 + pw j (x % 2 ^ (j + 1) / 2) + pw k (x / 2 ^ (j + 1))
    rw [pw_add j k (x / 2)]
    have e1 : x % 2 ^ (j + 1) % 2 = x % 2 := by
      rw [Nat.pow_succ]
      exact Nat.mod_mul_left_mod x (2 ^ j) 2
    have e2 : x % 2 ^ (j + 1) / 2 = x / 2 % 2 ^ j := by
      rw [Nat.pow_succ, Nat.mul_comm]
      exact Nat.mod_mul_right_div_self x 2 (2 ^ j)
    have e3 : x / 2 ^ (j + 1) = x / 2 / 2 ^ j := by
      rw [Nat.pow_succ, Nat.mul_comm, Nat.div_div_eq_div_mul]
    rw [e1, e2, e3]
    omega
theorem and_m2 {a b : Nat} (h : a % 2 = 0 ∨ b % 2 = 0) : (a &&& b) % 2 = 0 := by
  have := @Nat.and_mod_two_eq_one a b
  omega
/-- the lowest bit taken away -/
theorem pw_clr : ∀ {k x : Nat}, 0 < x → x < 2 ^ k → pw k (x &&& (x - 1)) + 1 = pw k x
  | 0, x, h0, h => by
    have : x < 1 := h
    omega
  | k + 1, x, h0, h => by
    have hz : (x &&& (x - 1)) % 2 = 0 := and_m2 (by omega)
    have hd : (x &&& (x - 1)) / 2 = x / 2 &&& (x - 1) / 2 := Nat.and_div_two
    have h2 : x / 2 < 2 ^ k := by
      rw [Nat.pow_succ] at h
      omega
    show (x &&& (x - 1)) % 2 + pw k ((x &&& (x - 1)) / 2) + 1 = x % 2 + pw k (x / 2)
    rw [hz, hd]
    by_cases c : x % 2 = 1
    · rw [show (x - 1) / 2 = x / 2 by omega, Nat.and_self]
      omega
    · have ih := pw_clr (k := k) (x := x / 2) (by omega) h2
      rw [show (x - 1) / 2 = x / 2 - 1 by omega]
      omega
/-- which bit is the lowest -/
theorem tz_ex : ∀ {k x : Nat}, 0 < x → x < 2 ^ k → ∃ t, t < k ∧ (∀ j, j < t → x / 2 ^ j % 2 = 0) ∧ x / 2 ^ t % 2 = 1 ∧ (x &&& (x - 1)) + 2 ^ t = x
  | 0, x, h0, h => by
    have : x < 1 := h
    omega
  | k + 1, x, h0, h => by
    have hz : (x &&& (x - 1)) % 2 = 0 := and_m2 (by omega)
    have hd : (x &&& (x - 1)) / 2 = x / 2 &&& (x - 1) / 2 := Nat.and_div_two
    have h2 : x / 2 < 2 ^ k := by
      rw [Nat.pow_succ] at h
      omega
    by_cases c : x % 2 = 1
    · rw [show (x - 1) / 2 = x / 2 by omega, Nat.and_self] at hd
      refine ⟨0, by omega, fun j hj => by omega, by rw [Nat.pow_zero, Nat.div_one]; exact c, ?_⟩
      rw [Nat.pow_zero]
      omega
    · obtain ⟨t, t1, t2, t3, t4⟩ := tz_ex (k := k) (x := x / 2) (by omega) h2
      rw [show (x - 1) / 2 = x / 2 - 1 by omega] at hd
      have e : ∀ j, x / 2 ^ (j + 1) = x / 2 / 2 ^ j := fun j => by
        rw [Nat.pow_succ, Nat.mul_comm, Nat.div_div_eq_div_mul]
      refine ⟨t + 1, by omega, fun j hj => ?_, by rw [e]; exact t3, ?_⟩
      · match j with
        | 0 =>
          rw [Nat.pow_zero, Nat.div_one]
          omega
        | j + 1 =>
          rw [e]
          exact t2 j (by omega)
      · rw [Nat.pow_succ]
        omega
theorem bits_LM : ∀ (m n acc x : Nat), pw 24 x = m → x < 2 ^ 24 → m < n → fX10_bits_L4 n (nI acc) (nI x) = some (nI (acc + m)) := by
  intro m
  induction m with
  | zero =>
    intro n acc x hm hx hn
    obtain ⟨n, rfl⟩ : ∃ q, n = q + 1 := ⟨n - 1, by omega⟩
    rw [pw_0 hx hm, fX10_bits_L4, if_pos (show nI 0 = (0 : Int32) from rfl)]
    rfl
  | succ m ih =>
    intro n acc x hm hx hn
    obtain ⟨n, rfl⟩ : ∃ q, n = q + 1 := ⟨n - 1, by omega⟩
    have h0 : x ≠ 0 := fun q => by
      rw [q, pw_z] at hm
      omega
    have hc := pw_clr (k := 24) (x := x) (by omega) hx
    have hle : x &&& (x - 1) ≤ x := Nat.and_le_left
    rw [fX10_bits_L4, if_neg (nI_n0 (by omega) h0)]
    simp only [un]
    rw [n32_1, pk_sub (by omega), and_n, nI_add, ih n (acc + 1) (x &&& (x - 1)) (by omega) (by omega) (by omega), show acc + 1 + m = acc + (m + 1) by omega]
theorem bits24_M {b : Nat} (h : b < 2 ^ 24) : fX10_bits (nI b) = some (nI (pw 24 b)) := by
  unfold fX10_bits
  have := bits_LM (pw 24 b) fu 0 b rfl h (fu_gt (by have := pw_le 24 b; omega))
  rw [Nat.zero_add] at this
  exact this
/-! the library's count -/
theorem land_s {x y m M : Nat} (hx : x < 256) (hm : m < 256) : (x + 256 * y) &&& (m + 256 * M) = (x &&& m) + 256 * (y &&& M) := by
  have e1 : ((x + 256 * y) &&& (m + 256 * M)) % 2 ^ 8 = (x + 256 * y) % 2 ^ 8 &&& (m + 256 * M) % 2 ^ 8 := Nat.and_mod_two_pow
  have e2 : ((x + 256 * y) &&& (m + 256 * M)) / 2 ^ 8 = (x + 256 * y) / 2 ^ 8 &&& (m + 256 * M) / 2 ^ 8 := Nat.and_div_two_pow
  rw [show (x + 256 * y) % 2 ^ 8 = x by omega, show (m + 256 * M) % 2 ^ 8 = m by omega] at e1
  rw [show (x + 256 * y) / 2 ^ 8 = y by omega, show (m + 256 * M) / 2 ^ 8 = M by omega] at e2
  omega
theorem land_3 {x y z m M : Nat} (hx : x < 256) (hy : y < 256) (hm : m < 256) : (x + 256 * (y + 256 * z)) &&& (m + 256 * (m + 256 * M)) = (x &&& m) + 256 * ((y &&& m) + 256 * (z &&& M)) := by
  rw [land_s hx hm, land_s hy hm]
def g1 (a : Nat) : Nat := a - (a / 2 &&& 85)
def g2 (a : Nat) : Nat := (a &&& 51) + (a / 4 &&& 51)
def g3 (a : Nat) : Nat := (g2 (g1 a) + g2 (g1 a) / 16) &&& 15
theorem d1_a : ∀ a, a < 256 → ∀ t, t < 2 → (a / 2 + 128 * t) &&& 85 = a / 2 &&& 85 := by decide +kernel
theorem d1_b : ∀ a, a < 256 → a / 2 &&& 21845 = a / 2 &&& 85 := by decide +kernel
theorem d2_a : ∀ a, a < 256 → ∀ t, t < 4 → (a / 4 + 64 * t) &&& 51 = a / 4 &&& 51 := by decide +kernel
theorem d2_b : ∀ a, a < 256 → a &&& 13107 = a &&& 51 ∧ a / 4 &&& 13107 = a / 4 &&& 51 := by decide +kernel
theorem d3_a : ∀ a, a < 256 → ∀ t, t < 5 → (g2 (g1 a) + g2 (g1 a) / 16 + 16 * t) &&& 15 = g3 a ∧ g2 (g1 a) + g2 (g1 a) / 16 + 16 * t < 256 := by decide +kernel
theorem d3_b : ∀ a, a < 256 → (g2 (g1 a) + g2 (g1 a) / 16) &&& 3855 = g3 a ∧ g2 (g1 a) % 16 < 5 ∧ g3 a = pw 8 a ∧ g2 (g1 a) < 256 ∧ g1 a < 256 ∧ a / 2 &&& 85 ≤ a := by decide +kernel
def bcN (n : Nat) : Nat := n - (n / 2 ^ 1 &&& 1431655765)
def bdN (n : Nat) : Nat := (n &&& 858993459) + (n / 2 ^ 2 &&& 858993459)
def beN (n : Nat) : Nat := (n + n / 2 ^ 4) &&& 252645135
theorem bc_3 {a b c : Nat} (ha : a < 256) (hb : b < 256) (hc : c < 256) : bcN (a + 256 * (b + 256 * c)) = g1 a + 256 * (g1 b + 256 * g1 c) := by
  unfold bcN g1
  have e : (a + 256 * (b + 256 * c)) / 2 ^ 1 = (a / 2 + 128 * (b % 2)) + 256 * ((b / 2 + 128 * (c % 2)) + 256 * (c / 2)) := by omega
  rw [e, show 1431655765 = 85 + 256 * (85 + 256 * 21845) from rfl, land_3 (by omega) (by omega) (by decide), d1_a a ha _ (by omega), d1_a b hb _ (by omega), d1_b c hc]
  have h1 := (d3_b a ha).2.2.2.2.2
  have h2 := (d3_b b hb).2.2.2.2.2
  have h3 := (d3_b c hc).2.2.2.2.2
  omega
theorem bd_3 {a b c : Nat} (ha : a < 256) (hb : b < 256) (hc : c < 256) : bdN (a + 256 * (b + 256 * c)) = g2 a + 256 * (g2 b + 256 * g2 c) := by
  unfold bdN g2
  have e : (a + 256 * (b + 256 * c)) / 2 ^ 2 = (a / 4 + 64 * (b % 4)) + 256 * ((b / 4 + 64 * (c % 4)) + 256 * (c / 4)) := by omega
  rw [e, show 858993459 = 51 + 256 * (51 + 256 * 13107) from rfl, land_3 (x := a) (y := b) (z := c) ha hb (by decide), land_3 (x := a / 4 + 64 * (b % 4)) (y := b / 4 + 64 * (c % 4)) (z := c / 4) (by omega) (by omega) (by decide), d2_a a ha _ (by omega), d2_a b hb _ (by omega), (d2_b c hc).1, (d2_b c hc).2]
  omega
theorem be_3 {a b c : Nat} (ha : a < 256) (hb : b < 256) (hc : c < 256) : beN (g2 (g1 a) + 256 * (g2 (g1 b) + 256 * g2 (g1 c))) = g3 a + 256 * (g3 b + 256 * g3 c) := by
  unfold beN
  obtain ⟨a1, a2, a3, a4, a5, a6⟩ := d3_b a ha
  obtain ⟨b1', b2, b3, b4, b5, b6⟩ := d3_b b hb
  obtain ⟨c1, c2, c3, c4, c5, c6⟩ := d3_b c hc
  obtain ⟨p1, p2⟩ := d3_a a ha (g2 (g1 b) % 16) b2
  obtain ⟨q1, q2⟩ := d3_a b hb (g2 (g1 c) % 16) c2
  have e : g2 (g1 a) + 256 * (g2 (g1 b) + 256 * g2 (g1 c)) + (g2 (g1 a) + 256 * (g2 (g1 b) + 256 * g2 (g1 c))) / 2 ^ 4 = (g2 (g1 a) + g2 (g1 a) / 16 + 16 * (g2 (g1 b) % 16)) + 256 * ((g2 (g1 b) + g2 (g1 b) / 16 + 16 * (g2 (g1 c) % 16)) + 256 * (g2 (g1 c) + g2 (g1 c) / 16)) := by omega
  rw [e, show 252645135 = 15 + 256 * (15 + 256 * 3855) from rfl, land_3 p2 q2 (by decide), p1, q1, c1]
theorem ush_n {n k : Nat} (hn : n < 2 ^ 31) {s : Int32} (hs : ((s.toUInt32 &&& Int32.toUInt32 31).toBitVec % 32).toNat = k) : ush (nI n) s = nI (n / 2 ^ k) := pk_ushrN (by omega) s k hs
theorem bits24_X {b : Nat} (h : b < 2 ^ 24) : fJ6_bitCount_0f7a4 (nI b) = nI (pw 24 b) := by
  obtain ⟨x, y, z, hx, hy, hz, rfl⟩ : ∃ x y z, x < 256 ∧ y < 256 ∧ z < 256 ∧ b = x + 256 * (y + 256 * z) := ⟨b % 256, b / 256 % 256, b / 65536, by omega, by omega, by omega, by omega⟩
  obtain ⟨a1, a2, a3, a4, a5, a6⟩ := d3_b x hx
  obtain ⟨b1', b2, b3, b4, b5, b6⟩ := d3_b y hy
  obtain ⟨c1, c2, c3, c4, c5, c6⟩ := d3_b z hz
  have p1 := pw_le 8 x
  have p2 := pw_le 8 y
  have p3 := pw_le 8 z
  have hpw : pw 24 (x + 256 * (y + 256 * z)) = pw 8 x + (pw 8 y + pw 8 z) := by
    have e := pw_add 8 16 (x + 256 * (y + 256 * z))
    have e2 := pw_add 8 8 (y + 256 * z)
    rw [show (x + 256 * (y + 256 * z)) % 2 ^ 8 = x by omega, show (x + 256 * (y + 256 * z)) / 2 ^ 8 = y + 256 * z by omega] at e
    rw [show (y + 256 * z) % 2 ^ 8 = y by omega, show (y + 256 * z) / 2 ^ 8 = z by omega] at e2
    rw [show (24 : Nat) = 8 + 16 from rfl, e, show (16 : Nat) = 8 + 8 from rfl, e2]
  have k1 := bc_3 hx hy hz
  have k2 := bd_3 a5 b5 c5
  have k3 := be_3 hx hy hz
  have l1 : (x + 256 * (y + 256 * z)) / 2 ^ 1 &&& 1431655765 ≤ (x + 256 * (y + 256 * z)) / 2 ^ 1 := Nat.and_le_left
  have k1 : x + 256 * (y + 256 * z) - ((x + 256 * (y + 256 * z)) / 2 ^ 1 &&& 1431655765) = g1 x + 256 * (g1 y + 256 * g1 z) := k1
  have k2 : (g1 x + 256 * (g1 y + 256 * g1 z) &&& 858993459) + ((g1 x + 256 * (g1 y + 256 * g1 z)) / 2 ^ 2 &&& 858993459) = g2 (g1 x) + 256 * (g2 (g1 y) + 256 * g2 (g1 z)) := k2
  have k3 : (g2 (g1 x) + 256 * (g2 (g1 y) + 256 * g2 (g1 z)) + (g2 (g1 x) + 256 * (g2 (g1 y) + 256 * g2 (g1 z))) / 2 ^ 4) &&& 252645135 = g3 x + 256 * (g3 y + 256 * g3 z) := k3
  rw [a3, b3, c3] at k3
  unfold fJ6_bitCount_0f7a4
  simp only [un]
  rw [ush_n (k := 1) (by omega) (by decide), show (1431655765 : Int32) = nI 1431655765 from rfl, and_n, pk_sub (by omega), k1]
  rw [ush_n (k := 2) (by omega) (by decide), show (858993459 : Int32) = nI 858993459 from rfl, and_n, and_n, nI_add, k2]
  rw [ush_n (k := 4) (by omega) (by decide), nI_add, show (252645135 : Int32) = nI 252645135 from rfl, and_n, k3]
  rw [ush_n (k := 8) (by omega) (by decide), nI_add, ush_n (k := 16) (by omega) (by decide), nI_add, show (63 : Int32) = nI (2 ^ 6 - 1) from rfl, and_n, Nat.and_two_pow_sub_one_eq_mod, hpw]
  clear k1 k2 k3 l1 hpw a1 a2 a3 a4 a5 a6 b1' b2 b3 b4 b5 b6 c1 c2 c3 c4 c5 c6
  generalize pw 8 x = P at p1 ⊢
  generalize pw 8 y = Q at p2 ⊢
  generalize pw 8 z = T at p3 ⊢
  rw [show (P + 256 * (Q + 256 * T)) / 2 ^ 8 = Q + 256 * T by omega, show (P + 256 * (Q + 256 * T) + (Q + 256 * T)) / 2 ^ 16 = T by omega]
  exact congrArg nI (by omega)
/-! the library's lowest bit -/
theorem bv_na (x y : BitVec 32) : (x ^^^ (-1#32)) &&& y = y - (x &&& y) := by
  have e : (-1#32) = BitVec.allOnes 32 := by decide
  rw [e, BitVec.xor_allOnes]
  have h : (~~~x &&& y) + (x &&& y) = y := by
    rw [BitVec.add_eq_or_of_and_eq_zero]
    · ext i hi
      rw [BitVec.getElem_or, BitVec.getElem_and, BitVec.getElem_and, BitVec.getElem_not]
      cases x[i] <;> cases y[i] <;> rfl
    · ext i hi
      rw [BitVec.getElem_and, BitVec.getElem_and, BitVec.getElem_and, BitVec.getElem_not, BitVec.getElem_zero]
      cases x[i] <;> cases y[i] <;> rfl
  have h2 : (~~~x &&& y) + (x &&& y) - (x &&& y) = y - (x &&& y) := by rw [h]
  rw [BitVec.add_sub_cancel] at h2
  exact h2
theorem i_na (x y : Int32) : (x ^^^ (-1 : Int32)) &&& y = y - (x &&& y) := by
  apply Int32.toBitVec_inj.mp
  exact bv_na x.toBitVec y.toBitVec
def tzF (x_1 : Int32) : Int32 := if (0 : Int32) < x_1 then (if x_1 ≤ (65536 : Int32) then fJ6_numberOfTrailingZeros_0f7a4_j34 x_1 (1 : Int32) else un ((1 : Int32) + (16 : Int32)) fun x_2 => un (ush x_1 (16 : Int32)) fun x_3 => fJ6_numberOfTrailingZeros_0f7a4_j34 x_3 x_2) else (x_1 &&& (32 : Int32))
theorem tz_dec : ∀ t, t < 24 → tzF (nI (2 ^ t - 1)) = nI t := by decide +kernel
theorem tz_X {b t : Nat} (h : b < 2 ^ 24) (h0 : 0 < b) (ht : t < 24) (e : (b &&& (b - 1)) + 2 ^ t = b) : fJ6_numberOfTrailingZeros_0f7a4 (nI b) = nI t := by
  show tzF ((nI b ^^^ (-1 : Int32)) &&& (nI b - (1 : Int32))) = nI t
  have hp : 0 < 2 ^ t := Nat.two_pow_pos t
  rw [i_na, n32_1, pk_sub (show 1 ≤ b from h0), and_n, pk_sub (by omega), show b - 1 - (b &&& (b - 1)) = 2 ^ t - 1 by omega]
  exact tz_dec t ht
