theorem ca_X10_init : CaI yX10_init cX10_init 2 0 := ⟨tw_141, tw_5, tw_142, rfl, by decide, by decide, by decide +kernel⟩
def kO_X10_init_0 (b n : Nat) : va_E := .inr (10, [.null, .null, .null, .int 0, .null, .null, .null, .null, .int 0, .null, .null, .null, .int 0, .int 0, .null, .int 0, .int 0, .int 0, .int 0, .int 0, .int 0, .null, .null, .null])
def kL_X10_init_0 (g : Gw) (b n : Nat) : List va_E := []
theorem kL_X10_init_0_len (g : Gw) (b n : Nat) : (kL_X10_init_0 g b n).length = 0 := rfl
def kL_X10_init_1 (g : Gw) (b n : Nat) : List va_E := kL_X10_init_0 g b n ++ [.inl (g.2.1 0, 8, .inl (fun _ => 0))]
theorem kL_X10_init_1_len (g : Gw) (b n : Nat) : (kL_X10_init_1 g b n).length = 1 := by
  unfold kL_X10_init_1
  rw [List.length_append, kL_X10_init_0_len]
  rfl
theorem kA_X10_init_1_0 (g : Gw) (b n : Nat) : (kL_X10_init_1 g b n)[0]? = some (.inl (g.2.1 0, 8, .inl (fun _ => 0))) := by
  unfold kL_X10_init_1
  rw [List.getElem?_append_right (by rw [kL_X10_init_0_len]; decide), kL_X10_init_0_len]
  rfl
def kO_X10_init_1 (b n : Nat) : va_E := .inr (10, [.ref (b + (n + 0)), .null, .null, .int 0, .null, .null, .null, .null, .int 0, .null, .null, .null, .int 0, .int 0, .null, .int 0, .int 0, .int 0, .int 0, .int 0, .int 0, .null, .null, .null])
def kL_X10_init_2 (g : Gw) (b n : Nat) : List va_E := kL_X10_init_1 g b n ++ [.inl (g.2.1 0, 8, .inl (fun _ => 0))]
theorem kL_X10_init_2_len (g : Gw) (b n : Nat) : (kL_X10_init_2 g b n).length = 2 := by
  unfold kL_X10_init_2
  rw [List.length_append, kL_X10_init_1_len]
  rfl
theorem kA_X10_init_2_0 (g : Gw) (b n : Nat) : (kL_X10_init_2 g b n)[0]? = some (.inl (g.2.1 0, 8, .inl (fun _ => 0))) := by
  unfold kL_X10_init_2
  rw [List.getElem?_append_left (by rw [kL_X10_init_1_len]; decide)]
  exact kA_X10_init_1_0 g b n
theorem kA_X10_init_2_1 (g : Gw) (b n : Nat) : (kL_X10_init_2 g b n)[1]? = some (.inl (g.2.1 0, 8, .inl (fun _ => 0))) := by
  unfold kL_X10_init_2
  rw [List.getElem?_append_right (by rw [kL_X10_init_1_len]; decide), kL_X10_init_1_len]
  rfl
def kO_X10_init_2 (b n : Nat) : va_E := .inr (10, [.ref (b + (n + 0)), .ref (b + (n + 1)), .null, .int 0, .null, .null, .null, .null, .int 0, .null, .null, .null, .int 0, .int 0, .null, .int 0, .int 0, .int 0, .int 0, .int 0, .int 0, .null, .null, .null])
def kL_X10_init_3 (g : Gw) (b n : Nat) : List va_E := kL_X10_init_2 g b n ++ [.inl (g.2.1 0, 320, .inl (fun _ => 0))]
theorem kL_X10_init_3_len (g : Gw) (b n : Nat) : (kL_X10_init_3 g b n).length = 3 := by
  unfold kL_X10_init_3
  rw [List.length_append, kL_X10_init_2_len]
  rfl
theorem kA_X10_init_3_0 (g : Gw) (b n : Nat) : (kL_X10_init_3 g b n)[0]? = some (.inl (g.2.1 0, 8, .inl (fun _ => 0))) := by
  unfold kL_X10_init_3
  rw [List.getElem?_append_left (by rw [kL_X10_init_2_len]; decide)]
  exact kA_X10_init_2_0 g b n
theorem kA_X10_init_3_1 (g : Gw) (b n : Nat) : (kL_X10_init_3 g b n)[1]? = some (.inl (g.2.1 0, 8, .inl (fun _ => 0))) := by
  unfold kL_X10_init_3
  rw [List.getElem?_append_left (by rw [kL_X10_init_2_len]; decide)]
  exact kA_X10_init_2_1 g b n
def kO_X10_init_3 (b n : Nat) : va_E := .inr (10, [.ref (b + (n + 0)), .ref (b + (n + 1)), .ref (b + (n + 2)), .int 0, .null, .null, .null, .null, .int 0, .null, .null, .null, .int 0, .int 0, .null, .int 0, .int 0, .int 0, .int 0, .int 0, .int 0, .null, .null, .null])
def kL_X10_init_4 (g : Gw) (b n : Nat) : List va_E := kL_X10_init_3 g b n ++ [.inl (g.2.1 0, 59, .inl (fun _ => 0))]
theorem kL_X10_init_4_len (g : Gw) (b n : Nat) : (kL_X10_init_4 g b n).length = 4 := by
  unfold kL_X10_init_4
  rw [List.length_append, kL_X10_init_3_len]
  rfl
theorem kA_X10_init_4_0 (g : Gw) (b n : Nat) : (kL_X10_init_4 g b n)[0]? = some (.inl (g.2.1 0, 8, .inl (fun _ => 0))) := by
  unfold kL_X10_init_4
  rw [List.getElem?_append_left (by rw [kL_X10_init_3_len]; decide)]
  exact kA_X10_init_3_0 g b n
theorem kA_X10_init_4_1 (g : Gw) (b n : Nat) : (kL_X10_init_4 g b n)[1]? = some (.inl (g.2.1 0, 8, .inl (fun _ => 0))) := by
  unfold kL_X10_init_4
  rw [List.getElem?_append_left (by rw [kL_X10_init_3_len]; decide)]
  exact kA_X10_init_3_1 g b n
def kO_X10_init_4 (b n : Nat) : va_E := .inr (10, [.ref (b + (n + 0)), .ref (b + (n + 1)), .ref (b + (n + 2)), .int 0, .ref (b + (n + 3)), .null, .null, .null, .int 0, .null, .null, .null, .int 0, .int 0, .null, .int 0, .int 0, .int 0, .int 0, .int 0, .int 0, .null, .null, .null])
def kL_X10_init_5 (g : Gw) (b n : Nat) : List va_E := kL_X10_init_4 g b n ++ [.inl (g.2.1 0, 59, .inl (fun _ => 0))]
theorem kL_X10_init_5_len (g : Gw) (b n : Nat) : (kL_X10_init_5 g b n).length = 5 := by
  unfold kL_X10_init_5
  rw [List.length_append, kL_X10_init_4_len]
  rfl
theorem kA_X10_init_5_0 (g : Gw) (b n : Nat) : (kL_X10_init_5 g b n)[0]? = some (.inl (g.2.1 0, 8, .inl (fun _ => 0))) := by
  unfold kL_X10_init_5
  rw [List.getElem?_append_left (by rw [kL_X10_init_4_len]; decide)]
  exact kA_X10_init_4_0 g b n
theorem kA_X10_init_5_1 (g : Gw) (b n : Nat) : (kL_X10_init_5 g b n)[1]? = some (.inl (g.2.1 0, 8, .inl (fun _ => 0))) := by
  unfold kL_X10_init_5
  rw [List.getElem?_append_left (by rw [kL_X10_init_4_len]; decide)]
  exact kA_X10_init_4_1 g b n
def kO_X10_init_5 (b n : Nat) : va_E := .inr (10, [.ref (b + (n + 0)), .ref (b + (n + 1)), .ref (b + (n + 2)), .int 0, .ref (b + (n + 3)), .ref (b + (n + 4)), .null, .null, .int 0, .null, .null, .null, .int 0, .int 0, .null, .int 0, .int 0, .int 0, .int 0, .int 0, .int 0, .null, .null, .null])
def kL_X10_init_6 (g : Gw) (b n : Nat) : List va_E := kL_X10_init_5 g b n ++ [.inl (g.2.1 0, 59, .inl (fun _ => 0))]
theorem kL_X10_init_6_len (g : Gw) (b n : Nat) : (kL_X10_init_6 g b n).length = 6 := by
  unfold kL_X10_init_6
  rw [List.length_append, kL_X10_init_5_len]
  rfl
theorem kA_X10_init_6_0 (g : Gw) (b n : Nat) : (kL_X10_init_6 g b n)[0]? = some (.inl (g.2.1 0, 8, .inl (fun _ => 0))) := by
  unfold kL_X10_init_6
  rw [List.getElem?_append_left (by rw [kL_X10_init_5_len]; decide)]
  exact kA_X10_init_5_0 g b n
theorem kA_X10_init_6_1 (g : Gw) (b n : Nat) : (kL_X10_init_6 g b n)[1]? = some (.inl (g.2.1 0, 8, .inl (fun _ => 0))) := by
  unfold kL_X10_init_6
  rw [List.getElem?_append_left (by rw [kL_X10_init_5_len]; decide)]
  exact kA_X10_init_5_1 g b n
def kO_X10_init_6 (b n : Nat) : va_E := .inr (10, [.ref (b + (n + 0)), .ref (b + (n + 1)), .ref (b + (n + 2)), .int 0, .ref (b + (n + 3)), .ref (b + (n + 4)), .ref (b + (n + 5)), .null, .int 0, .null, .null, .null, .int 0, .int 0, .null, .int 0, .int 0, .int 0, .int 0, .int 0, .int 0, .null, .null, .null])
def kL_X10_init_7 (g : Gw) (b n : Nat) : List va_E := kL_X10_init_6 g b n ++ [.inl (g.2.1 0, 1416, .inl (fun _ => 0))]
theorem kL_X10_init_7_len (g : Gw) (b n : Nat) : (kL_X10_init_7 g b n).length = 7 := by
  unfold kL_X10_init_7
  rw [List.length_append, kL_X10_init_6_len]
  rfl
theorem kA_X10_init_7_0 (g : Gw) (b n : Nat) : (kL_X10_init_7 g b n)[0]? = some (.inl (g.2.1 0, 8, .inl (fun _ => 0))) := by
  unfold kL_X10_init_7
  rw [List.getElem?_append_left (by rw [kL_X10_init_6_len]; decide)]
  exact kA_X10_init_6_0 g b n
theorem kA_X10_init_7_1 (g : Gw) (b n : Nat) : (kL_X10_init_7 g b n)[1]? = some (.inl (g.2.1 0, 8, .inl (fun _ => 0))) := by
  unfold kL_X10_init_7
  rw [List.getElem?_append_left (by rw [kL_X10_init_6_len]; decide)]
  exact kA_X10_init_6_1 g b n
def kO_X10_init_7 (b n : Nat) : va_E := .inr (10, [.ref (b + (n + 0)), .ref (b + (n + 1)), .ref (b + (n + 2)), .int 0, .ref (b + (n + 3)), .ref (b + (n + 4)), .ref (b + (n + 5)), .ref (b + (n + 6)), .int 0, .null, .null, .null, .int 0, .int 0, .null, .int 0, .int 0, .int 0, .int 0, .int 0, .int 0, .null, .null, .null])
def kL_X10_init_8 (g : Gw) (b n : Nat) : List va_E := kL_X10_init_7 g b n ++ [.inl (g.2.1 0, 118, .inl (fun _ => 0))]
theorem kL_X10_init_8_len (g : Gw) (b n : Nat) : (kL_X10_init_8 g b n).length = 8 := by
  unfold kL_X10_init_8
  rw [List.length_append, kL_X10_init_7_len]
  rfl
theorem kA_X10_init_8_0 (g : Gw) (b n : Nat) : (kL_X10_init_8 g b n)[0]? = some (.inl (g.2.1 0, 8, .inl (fun _ => 0))) := by
  unfold kL_X10_init_8
  rw [List.getElem?_append_left (by rw [kL_X10_init_7_len]; decide)]
  exact kA_X10_init_7_0 g b n
theorem kA_X10_init_8_1 (g : Gw) (b n : Nat) : (kL_X10_init_8 g b n)[1]? = some (.inl (g.2.1 0, 8, .inl (fun _ => 0))) := by
  unfold kL_X10_init_8
  rw [List.getElem?_append_left (by rw [kL_X10_init_7_len]; decide)]
  exact kA_X10_init_7_1 g b n
def kO_X10_init_8 (b n : Nat) : va_E := .inr (10, [.ref (b + (n + 0)), .ref (b + (n + 1)), .ref (b + (n + 2)), .int 0, .ref (b + (n + 3)), .ref (b + (n + 4)), .ref (b + (n + 5)), .ref (b + (n + 6)), .int 0, .ref (b + (n + 7)), .null, .null, .int 0, .int 0, .null, .int 0, .int 0, .int 0, .int 0, .int 0, .int 0, .null, .null, .null])
def kL_X10_init_9 (g : Gw) (b n : Nat) : List va_E := kL_X10_init_8 g b n ++ [.inl (g.2.1 1, 2, .inl (fun _ => 0))]
theorem kL_X10_init_9_len (g : Gw) (b n : Nat) : (kL_X10_init_9 g b n).length = 9 := by
  unfold kL_X10_init_9
  rw [List.length_append, kL_X10_init_8_len]
  rfl
theorem kA_X10_init_9_0 (g : Gw) (b n : Nat) : (kL_X10_init_9 g b n)[0]? = some (.inl (g.2.1 0, 8, .inl (fun _ => 0))) := by
  unfold kL_X10_init_9
  rw [List.getElem?_append_left (by rw [kL_X10_init_8_len]; decide)]
  exact kA_X10_init_8_0 g b n
theorem kA_X10_init_9_1 (g : Gw) (b n : Nat) : (kL_X10_init_9 g b n)[1]? = some (.inl (g.2.1 0, 8, .inl (fun _ => 0))) := by
  unfold kL_X10_init_9
  rw [List.getElem?_append_left (by rw [kL_X10_init_8_len]; decide)]
  exact kA_X10_init_8_1 g b n
def kO_X10_init_9 (b n : Nat) : va_E := .inr (10, [.ref (b + (n + 0)), .ref (b + (n + 1)), .ref (b + (n + 2)), .int 0, .ref (b + (n + 3)), .ref (b + (n + 4)), .ref (b + (n + 5)), .ref (b + (n + 6)), .int 0, .ref (b + (n + 7)), .ref (b + (n + 8)), .null, .int 0, .int 0, .null, .int 0, .int 0, .int 0, .int 0, .int 0, .int 0, .null, .null, .null])
def kL_X10_init_10 (g : Gw) (b n : Nat) : List va_E := kL_X10_init_9 g b n ++ [.inl (g.2.1 0, 90, .inl (fun _ => 0))]
theorem kL_X10_init_10_len (g : Gw) (b n : Nat) : (kL_X10_init_10 g b n).length = 10 := by
  unfold kL_X10_init_10
  rw [List.length_append, kL_X10_init_9_len]
  rfl
theorem kA_X10_init_10_0 (g : Gw) (b n : Nat) : (kL_X10_init_10 g b n)[0]? = some (.inl (g.2.1 0, 8, .inl (fun _ => 0))) := by
  unfold kL_X10_init_10
  rw [List.getElem?_append_left (by rw [kL_X10_init_9_len]; decide)]
  exact kA_X10_init_9_0 g b n
theorem kA_X10_init_10_1 (g : Gw) (b n : Nat) : (kL_X10_init_10 g b n)[1]? = some (.inl (g.2.1 0, 8, .inl (fun _ => 0))) := by
  unfold kL_X10_init_10
  rw [List.getElem?_append_left (by rw [kL_X10_init_9_len]; decide)]
  exact kA_X10_init_9_1 g b n
def kO_X10_init_10 (b n : Nat) : va_E := .inr (10, [.ref (b + (n + 0)), .ref (b + (n + 1)), .ref (b + (n + 2)), .int 0, .ref (b + (n + 3)), .ref (b + (n + 4)), .ref (b + (n + 5)), .ref (b + (n + 6)), .int 0, .ref (b + (n + 7)), .ref (b + (n + 8)), .ref (b + (n + 9)), .int 0, .int 0, .null, .int 0, .int 0, .int 0, .int 0, .int 0, .int 0, .null, .null, .null])
def kL_X10_init_11 (g : Gw) (b n : Nat) : List va_E := kL_X10_init_10 g b n ++ [.inl (g.2.1 0, 16, .inl (fun _ => 0))]
theorem kL_X10_init_11_len (g : Gw) (b n : Nat) : (kL_X10_init_11 g b n).length = 11 := by
  unfold kL_X10_init_11
  rw [List.length_append, kL_X10_init_10_len]
  rfl
theorem kA_X10_init_11_0 (g : Gw) (b n : Nat) : (kL_X10_init_11 g b n)[0]? = some (.inl (g.2.1 0, 8, .inl (fun _ => 0))) := by
  unfold kL_X10_init_11
  rw [List.getElem?_append_left (by rw [kL_X10_init_10_len]; decide)]
  exact kA_X10_init_10_0 g b n
theorem kA_X10_init_11_1 (g : Gw) (b n : Nat) : (kL_X10_init_11 g b n)[1]? = some (.inl (g.2.1 0, 8, .inl (fun _ => 0))) := by
  unfold kL_X10_init_11
  rw [List.getElem?_append_left (by rw [kL_X10_init_10_len]; decide)]
  exact kA_X10_init_10_1 g b n
def kO_X10_init_11 (b n : Nat) : va_E := .inr (10, [.ref (b + (n + 0)), .ref (b + (n + 1)), .ref (b + (n + 2)), .int 0, .ref (b + (n + 3)), .ref (b + (n + 4)), .ref (b + (n + 5)), .ref (b + (n + 6)), .int 0, .ref (b + (n + 7)), .ref (b + (n + 8)), .ref (b + (n + 9)), .int 0, .int 0, .ref (b + (n + 10)), .int 0, .int 0, .int 0, .int 0, .int 0, .int 0, .null, .null, .null])
def kL_X10_init_12 (g : Gw) (b n : Nat) : List va_E := kL_X10_init_11 g b n ++ [.inl (g.2.1 0, 295, .inl (fun _ => 0))]
theorem kL_X10_init_12_len (g : Gw) (b n : Nat) : (kL_X10_init_12 g b n).length = 12 := by
  unfold kL_X10_init_12
  rw [List.length_append, kL_X10_init_11_len]
  rfl
theorem kA_X10_init_12_0 (g : Gw) (b n : Nat) : (kL_X10_init_12 g b n)[0]? = some (.inl (g.2.1 0, 8, .inl (fun _ => 0))) := by
  unfold kL_X10_init_12
  rw [List.getElem?_append_left (by rw [kL_X10_init_11_len]; decide)]
  exact kA_X10_init_11_0 g b n
theorem kA_X10_init_12_1 (g : Gw) (b n : Nat) : (kL_X10_init_12 g b n)[1]? = some (.inl (g.2.1 0, 8, .inl (fun _ => 0))) := by
  unfold kL_X10_init_12
  rw [List.getElem?_append_left (by rw [kL_X10_init_11_len]; decide)]
  exact kA_X10_init_11_1 g b n
def kO_X10_init_12 (b n : Nat) : va_E := .inr (10, [.ref (b + (n + 0)), .ref (b + (n + 1)), .ref (b + (n + 2)), .int 0, .ref (b + (n + 3)), .ref (b + (n + 4)), .ref (b + (n + 5)), .ref (b + (n + 6)), .int 0, .ref (b + (n + 7)), .ref (b + (n + 8)), .ref (b + (n + 9)), .int 0, .int 0, .ref (b + (n + 10)), .int 0, .int 0, .int 0, .int 0, .int 0, .int 0, .ref (b + (n + 11)), .null, .null])
def kL_X10_init_13 (g : Gw) (b n : Nat) : List va_E := kL_X10_init_12 g b n ++ [.inl (g.2.1 0, 5, .inl (fun _ => 0))]
theorem kL_X10_init_13_len (g : Gw) (b n : Nat) : (kL_X10_init_13 g b n).length = 13 := by
  unfold kL_X10_init_13
  rw [List.length_append, kL_X10_init_12_len]
  rfl
theorem kA_X10_init_13_0 (g : Gw) (b n : Nat) : (kL_X10_init_13 g b n)[0]? = some (.inl (g.2.1 0, 8, .inl (fun _ => 0))) := by
  unfold kL_X10_init_13
  rw [List.getElem?_append_left (by rw [kL_X10_init_12_len]; decide)]
  exact kA_X10_init_12_0 g b n
theorem kA_X10_init_13_1 (g : Gw) (b n : Nat) : (kL_X10_init_13 g b n)[1]? = some (.inl (g.2.1 0, 8, .inl (fun _ => 0))) := by
  unfold kL_X10_init_13
  rw [List.getElem?_append_left (by rw [kL_X10_init_12_len]; decide)]
  exact kA_X10_init_12_1 g b n
def kO_X10_init_13 (b n : Nat) : va_E := .inr (10, [.ref (b + (n + 0)), .ref (b + (n + 1)), .ref (b + (n + 2)), .int 0, .ref (b + (n + 3)), .ref (b + (n + 4)), .ref (b + (n + 5)), .ref (b + (n + 6)), .int 0, .ref (b + (n + 7)), .ref (b + (n + 8)), .ref (b + (n + 9)), .int 0, .int 0, .ref (b + (n + 10)), .int 0, .int 0, .int 0, .int 0, .int 0, .int 0, .ref (b + (n + 11)), .ref (b + (n + 12)), .null])
def kL_X10_init_14 (g : Gw) (b n : Nat) : List va_E := kL_X10_init_13 g b n ++ [.inl (g.2.1 0, 5, .inl (fun _ => 0))]
theorem kL_X10_init_14_len (g : Gw) (b n : Nat) : (kL_X10_init_14 g b n).length = 14 := by
  unfold kL_X10_init_14
  rw [List.length_append, kL_X10_init_13_len]
  rfl
theorem kA_X10_init_14_0 (g : Gw) (b n : Nat) : (kL_X10_init_14 g b n)[0]? = some (.inl (g.2.1 0, 8, .inl (fun _ => 0))) := by
  unfold kL_X10_init_14
  rw [List.getElem?_append_left (by rw [kL_X10_init_13_len]; decide)]
  exact kA_X10_init_13_0 g b n
theorem kA_X10_init_14_1 (g : Gw) (b n : Nat) : (kL_X10_init_14 g b n)[1]? = some (.inl (g.2.1 0, 8, .inl (fun _ => 0))) := by
  unfold kL_X10_init_14
  rw [List.getElem?_append_left (by rw [kL_X10_init_13_len]; decide)]
  exact kA_X10_init_13_1 g b n
def kO_X10_init_14 (b n : Nat) : va_E := .inr (10, [.ref (b + (n + 0)), .ref (b + (n + 1)), .ref (b + (n + 2)), .int 0, .ref (b + (n + 3)), .ref (b + (n + 4)), .ref (b + (n + 5)), .ref (b + (n + 6)), .int 0, .ref (b + (n + 7)), .ref (b + (n + 8)), .ref (b + (n + 9)), .int 0, .int 0, .ref (b + (n + 10)), .int 0, .int 0, .int 0, .int 0, .int 0, .int 0, .ref (b + (n + 11)), .ref (b + (n + 12)), .ref (b + (n + 13))])
def kL_X10_init_15 (g : Gw) (b n : Nat) : List va_E := (kL_X10_init_14 g b n).set 1 (.inl (g.2.1 0, 8, .inl (upd (fun _ => 0) 0 (-1))))
theorem kL_X10_init_15_len (g : Gw) (b n : Nat) : (kL_X10_init_15 g b n).length = 14 := by
  unfold kL_X10_init_15
  rw [List.length_set, kL_X10_init_14_len]
theorem kA_X10_init_15_0 (g : Gw) (b n : Nat) : (kL_X10_init_15 g b n)[0]? = some (.inl (g.2.1 0, 8, .inl (fun _ => 0))) := by
  unfold kL_X10_init_15
  rw [List.getElem?_set_ne (by decide)]
  exact kA_X10_init_14_0 g b n
theorem kA_X10_init_15_1 (g : Gw) (b n : Nat) : (kL_X10_init_15 g b n)[1]? = some (.inl (g.2.1 0, 8, .inl (upd (fun _ => 0) 0 (-1)))) := by
  unfold kL_X10_init_15
  rw [List.getElem?_set_self (by rw [kL_X10_init_14_len]; decide)]
def kL_X10_init_16 (g : Gw) (b n : Nat) : List va_E := (kL_X10_init_15 g b n).set 1 (.inl (g.2.1 0, 8, .inl (upd (upd (fun _ => 0) 0 (-1)) 1 (-1))))
theorem kL_X10_init_16_len (g : Gw) (b n : Nat) : (kL_X10_init_16 g b n).length = 14 := by
  unfold kL_X10_init_16
  rw [List.length_set, kL_X10_init_15_len]
theorem kA_X10_init_16_0 (g : Gw) (b n : Nat) : (kL_X10_init_16 g b n)[0]? = some (.inl (g.2.1 0, 8, .inl (fun _ => 0))) := by
  unfold kL_X10_init_16
  rw [List.getElem?_set_ne (by decide)]
  exact kA_X10_init_15_0 g b n
theorem kA_X10_init_16_1 (g : Gw) (b n : Nat) : (kL_X10_init_16 g b n)[1]? = some (.inl (g.2.1 0, 8, .inl (upd (upd (fun _ => 0) 0 (-1)) 1 (-1)))) := by
  unfold kL_X10_init_16
  rw [List.getElem?_set_self (by rw [kL_X10_init_15_len]; decide)]
def kL_X10_init_17 (g : Gw) (b n : Nat) : List va_E := (kL_X10_init_16 g b n).set 1 (.inl (g.2.1 0, 8, .inl (upd (upd (upd (fun _ => 0) 0 (-1)) 1 (-1)) 2 (-1))))
theorem kL_X10_init_17_len (g : Gw) (b n : Nat) : (kL_X10_init_17 g b n).length = 14 := by
  unfold kL_X10_init_17
  rw [List.length_set, kL_X10_init_16_len]
theorem kA_X10_init_17_0 (g : Gw) (b n : Nat) : (kL_X10_init_17 g b n)[0]? = some (.inl (g.2.1 0, 8, .inl (fun _ => 0))) := by
  unfold kL_X10_init_17
  rw [List.getElem?_set_ne (by decide)]
  exact kA_X10_init_16_0 g b n
theorem kA_X10_init_17_1 (g : Gw) (b n : Nat) : (kL_X10_init_17 g b n)[1]? = some (.inl (g.2.1 0, 8, .inl (upd (upd (upd (fun _ => 0) 0 (-1)) 1 (-1)) 2 (-1)))) := by
  unfold kL_X10_init_17
  rw [List.getElem?_set_self (by rw [kL_X10_init_16_len]; decide)]
def kL_X10_init_18 (g : Gw) (b n : Nat) : List va_E := (kL_X10_init_17 g b n).set 1 (.inl (g.2.1 0, 8, .inl (upd (upd (upd (upd (fun _ => 0) 0 (-1)) 1 (-1)) 2 (-1)) 3 (-1))))
theorem kL_X10_init_18_len (g : Gw) (b n : Nat) : (kL_X10_init_18 g b n).length = 14 := by
  unfold kL_X10_init_18
  rw [List.length_set, kL_X10_init_17_len]
theorem kA_X10_init_18_0 (g : Gw) (b n : Nat) : (kL_X10_init_18 g b n)[0]? = some (.inl (g.2.1 0, 8, .inl (fun _ => 0))) := by
  unfold kL_X10_init_18
  rw [List.getElem?_set_ne (by decide)]
  exact kA_X10_init_17_0 g b n
theorem kA_X10_init_18_1 (g : Gw) (b n : Nat) : (kL_X10_init_18 g b n)[1]? = some (.inl (g.2.1 0, 8, .inl (upd (upd (upd (upd (fun _ => 0) 0 (-1)) 1 (-1)) 2 (-1)) 3 (-1)))) := by
  unfold kL_X10_init_18
  rw [List.getElem?_set_self (by rw [kL_X10_init_17_len]; decide)]
def kL_X10_init_19 (g : Gw) (b n : Nat) : List va_E := (kL_X10_init_18 g b n).set 1 (.inl (g.2.1 0, 8, .inl (upd (upd (upd (upd (upd (fun _ => 0) 0 (-1)) 1 (-1)) 2 (-1)) 3 (-1)) 4 (-1))))
theorem kL_X10_init_19_len (g : Gw) (b n : Nat) : (kL_X10_init_19 g b n).length = 14 := by
  unfold kL_X10_init_19
  rw [List.length_set, kL_X10_init_18_len]
theorem kA_X10_init_19_0 (g : Gw) (b n : Nat) : (kL_X10_init_19 g b n)[0]? = some (.inl (g.2.1 0, 8, .inl (fun _ => 0))) := by
  unfold kL_X10_init_19
  rw [List.getElem?_set_ne (by decide)]
  exact kA_X10_init_18_0 g b n
theorem kA_X10_init_19_1 (g : Gw) (b n : Nat) : (kL_X10_init_19 g b n)[1]? = some (.inl (g.2.1 0, 8, .inl (upd (upd (upd (upd (upd (fun _ => 0) 0 (-1)) 1 (-1)) 2 (-1)) 3 (-1)) 4 (-1)))) := by
  unfold kL_X10_init_19
  rw [List.getElem?_set_self (by rw [kL_X10_init_18_len]; decide)]
def kL_X10_init_20 (g : Gw) (b n : Nat) : List va_E := (kL_X10_init_19 g b n).set 1 (.inl (g.2.1 0, 8, .inl (upd (upd (upd (upd (upd (upd (fun _ => 0) 0 (-1)) 1 (-1)) 2 (-1)) 3 (-1)) 4 (-1)) 5 (-1))))
theorem kL_X10_init_20_len (g : Gw) (b n : Nat) : (kL_X10_init_20 g b n).length = 14 := by
  unfold kL_X10_init_20
  rw [List.length_set, kL_X10_init_19_len]
theorem kA_X10_init_20_0 (g : Gw) (b n : Nat) : (kL_X10_init_20 g b n)[0]? = some (.inl (g.2.1 0, 8, .inl (fun _ => 0))) := by
  unfold kL_X10_init_20
  rw [List.getElem?_set_ne (by decide)]
  exact kA_X10_init_19_0 g b n
theorem kA_X10_init_20_1 (g : Gw) (b n : Nat) : (kL_X10_init_20 g b n)[1]? = some (.inl (g.2.1 0, 8, .inl (upd (upd (upd (upd (upd (upd (fun _ => 0) 0 (-1)) 1 (-1)) 2 (-1)) 3 (-1)) 4 (-1)) 5 (-1)))) := by
  unfold kL_X10_init_20
  rw [List.getElem?_set_self (by rw [kL_X10_init_19_len]; decide)]
def kL_X10_init_21 (g : Gw) (b n : Nat) : List va_E := (kL_X10_init_20 g b n).set 1 (.inl (g.2.1 0, 8, .inl (upd (upd (upd (upd (upd (upd (upd (fun _ => 0) 0 (-1)) 1 (-1)) 2 (-1)) 3 (-1)) 4 (-1)) 5 (-1)) 6 (-1))))
theorem kL_X10_init_21_len (g : Gw) (b n : Nat) : (kL_X10_init_21 g b n).length = 14 := by
  unfold kL_X10_init_21
  rw [List.length_set, kL_X10_init_20_len]
theorem kA_X10_init_21_0 (g : Gw) (b n : Nat) : (kL_X10_init_21 g b n)[0]? = some (.inl (g.2.1 0, 8, .inl (fun _ => 0))) := by
  unfold kL_X10_init_21
  rw [List.getElem?_set_ne (by decide)]
  exact kA_X10_init_20_0 g b n
theorem kA_X10_init_21_1 (g : Gw) (b n : Nat) : (kL_X10_init_21 g b n)[1]? = some (.inl (g.2.1 0, 8, .inl (upd (upd (upd (upd (upd (upd (upd (fun _ => 0) 0 (-1)) 1 (-1)) 2 (-1)) 3 (-1)) 4 (-1)) 5 (-1)) 6 (-1)))) := by
  unfold kL_X10_init_21
  rw [List.getElem?_set_self (by rw [kL_X10_init_20_len]; decide)]
def kL_X10_init_22 (g : Gw) (b n : Nat) : List va_E := (kL_X10_init_21 g b n).set 1 (.inl (g.2.1 0, 8, .inl (upd (upd (upd (upd (upd (upd (upd (upd (fun _ => 0) 0 (-1)) 1 (-1)) 2 (-1)) 3 (-1)) 4 (-1)) 5 (-1)) 6 (-1)) 7 (-1))))
theorem kL_X10_init_22_len (g : Gw) (b n : Nat) : (kL_X10_init_22 g b n).length = 14 := by
  unfold kL_X10_init_22
  rw [List.length_set, kL_X10_init_21_len]
theorem kA_X10_init_22_0 (g : Gw) (b n : Nat) : (kL_X10_init_22 g b n)[0]? = some (.inl (g.2.1 0, 8, .inl (fun _ => 0))) := by
  unfold kL_X10_init_22
  rw [List.getElem?_set_ne (by decide)]
  exact kA_X10_init_21_0 g b n
theorem kA_X10_init_22_1 (g : Gw) (b n : Nat) : (kL_X10_init_22 g b n)[1]? = some (.inl (g.2.1 0, 8, .inl (upd (upd (upd (upd (upd (upd (upd (upd (fun _ => 0) 0 (-1)) 1 (-1)) 2 (-1)) 3 (-1)) 4 (-1)) 5 (-1)) 6 (-1)) 7 (-1)))) := by
  unfold kL_X10_init_22
  rw [List.getElem?_set_self (by rw [kL_X10_init_21_len]; decide)]
def kO_X10_init (b n : Nat) : va_E := kO_X10_init_14 b n
def kT_X10_init (g : Gw) (b n : Nat) : List va_E := kL_X10_init_22 g b n
theorem kT_X10_init_len (g : Gw) (b n : Nat) : (kT_X10_init g b n).length = 14 := kL_X10_init_22_len g b n
set_option maxRecDepth 100000 in
set_option maxHeartbeats 4000000 in
theorem kc_X10_init {l : Launch} {g : Gw} {b : Nat} (n h : Nat) (cw : Nat → va_E) (hh : h < n) (ho : cw h = .inr (10, [.null, .null, .null, .int 0, .null, .null, .null, .null, .int 0, .null, .null, .null, .int 0, .int 0, .null, .int 0, .int 0, .int 0, .int 0, .int 0, .int 0, .null, .null, .null])) : MtC l yX10_init cX10_init 2 2 14 2460 g b [.ref (b + h)] (pS g b n cw) (pS g b (n + 14) (nfS cw n h (kO_X10_init b n) (kT_X10_init g b n))) := by
  refine mtc_of (by decide) rfl (Nat.le_of_ble_eq_true rfl) (fun p e s m below meth c ls H locs C hP hS hl => ?_)
  have C : Cc g p s m _ meth c cX10_init 2 RX10 := C
  have hl : lv_has ls 2 [(0, .ref (b + h))] := hl
  obtain ⟨hx, hb, hml, hown, hts, hr, hlk, hK, hNc, hin⟩ := id C
  have hP : pS g b (n + 0) (nfS cw n h (kO_X10_init_0 b n) (kL_X10_init_0 g b n)) H := pS_congr hP (nf_0 ho)
  refine lv_aload_n hx hb dX10_init_0 rfl (lv_at hl 0 rfl) ?_
  refine k_obj C hl.1 tw_143 tw_10 tw_11 ⟨Nat.le_of_ble_eq_true rfl, Nat.le_of_ble_eq_true rfl⟩ dX10_init_1 ?_
  refine lv_aload_n hx hb dX10_init_4 rfl (lv_at hl 0 rfl) ?_
  refine lv_bipush (v := 8) hx hb dX10_init_5 (by decide) ?_
  refine k_newI C tw_51 hP hS (N := 8) (by decide) (by decide) (by decide) (Nat.le_of_ble_eq_true rfl) (Nat.le_of_ble_eq_true rfl) dX10_init_7 (fun H hP hS => ?_)
  have hP : pS g b (n + 1) (nfS cw n h (kO_X10_init_0 b n) (kL_X10_init_1 g b n)) H := pS_congr hP (nf_push (N := 0) hh (kL_X10_init_0_len g b n))
  refine k_put C cf_10 hP hS (show h < n + 1 by omega) nf_self 0 (by decide) (Nat.le_of_ble_eq_true rfl) (Or.inr rfl) rfl rfl tw_144 dX10_init_9 (fun H locs hP hS => ?_)
  have hP : pS g b (n + 1) (nfS cw n h (kO_X10_init_1 b n) (kL_X10_init_1 g b n)) H := pS_congr hP (nf_put (N := 1) (kL_X10_init_1_len g b n))
  refine lv_aload_n hx hb dX10_init_12 rfl (lv_at hl 0 rfl) ?_
  refine lv_bipush (v := 8) hx hb dX10_init_13 (by decide) ?_
  refine k_newI C tw_51 hP hS (N := 8) (by decide) (by decide) (by decide) (Nat.le_of_ble_eq_true rfl) (Nat.le_of_ble_eq_true rfl) dX10_init_15 (fun H hP hS => ?_)
  have hP : pS g b (n + 2) (nfS cw n h (kO_X10_init_1 b n) (kL_X10_init_2 g b n)) H := pS_congr hP (nf_push (N := 1) hh (kL_X10_init_1_len g b n))
  refine k_put C cf_10 hP hS (show h < n + 2 by omega) nf_self 1 (by decide) (Nat.le_of_ble_eq_true rfl) (Or.inr rfl) rfl rfl tw_145 dX10_init_17 (fun H locs hP hS => ?_)
  have hP : pS g b (n + 2) (nfS cw n h (kO_X10_init_2 b n) (kL_X10_init_2 g b n)) H := pS_congr hP (nf_put (N := 2) (kL_X10_init_2_len g b n))
  refine lv_aload_n hx hb dX10_init_20 rfl (lv_at hl 0 rfl) ?_
  refine lv_sipush (v := 320) hx hb dX10_init_21 (by decide) ?_
  refine k_newI C tw_51 hP hS (N := 320) (by decide) (by decide) (by decide) (Nat.le_of_ble_eq_true rfl) (Nat.le_of_ble_eq_true rfl) dX10_init_24 (fun H hP hS => ?_)
  have hP : pS g b (n + 3) (nfS cw n h (kO_X10_init_2 b n) (kL_X10_init_3 g b n)) H := pS_congr hP (nf_push (N := 2) hh (kL_X10_init_2_len g b n))
  refine k_put C cf_10 hP hS (show h < n + 3 by omega) nf_self 2 (by decide) (Nat.le_of_ble_eq_true rfl) (Or.inr rfl) rfl rfl tw_146 dX10_init_26 (fun H locs hP hS => ?_)
  have hP : pS g b (n + 3) (nfS cw n h (kO_X10_init_3 b n) (kL_X10_init_3 g b n)) H := pS_congr hP (nf_put (N := 3) (kL_X10_init_3_len g b n))
  refine lv_aload_n hx hb dX10_init_29 rfl (lv_at hl 0 rfl) ?_
  refine lv_bipush (v := 59) hx hb dX10_init_30 (by decide) ?_
  refine k_newI C tw_51 hP hS (N := 59) (by decide) (by decide) (by decide) (Nat.le_of_ble_eq_true rfl) (Nat.le_of_ble_eq_true rfl) dX10_init_32 (fun H hP hS => ?_)
  have hP : pS g b (n + 4) (nfS cw n h (kO_X10_init_3 b n) (kL_X10_init_4 g b n)) H := pS_congr hP (nf_push (N := 3) hh (kL_X10_init_3_len g b n))
  refine k_put C cf_10 hP hS (show h < n + 4 by omega) nf_self 4 (by decide) (Nat.le_of_ble_eq_true rfl) (Or.inr rfl) rfl rfl tw_147 dX10_init_34 (fun H locs hP hS => ?_)
  have hP : pS g b (n + 4) (nfS cw n h (kO_X10_init_4 b n) (kL_X10_init_4 g b n)) H := pS_congr hP (nf_put (N := 4) (kL_X10_init_4_len g b n))
  refine lv_aload_n hx hb dX10_init_37 rfl (lv_at hl 0 rfl) ?_
  refine lv_bipush (v := 59) hx hb dX10_init_38 (by decide) ?_
  refine k_newI C tw_51 hP hS (N := 59) (by decide) (by decide) (by decide) (Nat.le_of_ble_eq_true rfl) (Nat.le_of_ble_eq_true rfl) dX10_init_40 (fun H hP hS => ?_)
  have hP : pS g b (n + 5) (nfS cw n h (kO_X10_init_4 b n) (kL_X10_init_5 g b n)) H := pS_congr hP (nf_push (N := 4) hh (kL_X10_init_4_len g b n))
  refine k_put C cf_10 hP hS (show h < n + 5 by omega) nf_self 5 (by decide) (Nat.le_of_ble_eq_true rfl) (Or.inr rfl) rfl rfl tw_148 dX10_init_42 (fun H locs hP hS => ?_)
  have hP : pS g b (n + 5) (nfS cw n h (kO_X10_init_5 b n) (kL_X10_init_5 g b n)) H := pS_congr hP (nf_put (N := 5) (kL_X10_init_5_len g b n))
  refine lv_aload_n hx hb dX10_init_45 rfl (lv_at hl 0 rfl) ?_
  refine lv_bipush (v := 59) hx hb dX10_init_46 (by decide) ?_
  refine k_newI C tw_51 hP hS (N := 59) (by decide) (by decide) (by decide) (Nat.le_of_ble_eq_true rfl) (Nat.le_of_ble_eq_true rfl) dX10_init_48 (fun H hP hS => ?_)
  have hP : pS g b (n + 6) (nfS cw n h (kO_X10_init_5 b n) (kL_X10_init_6 g b n)) H := pS_congr hP (nf_push (N := 5) hh (kL_X10_init_5_len g b n))
  refine k_put C cf_10 hP hS (show h < n + 6 by omega) nf_self 6 (by decide) (Nat.le_of_ble_eq_true rfl) (Or.inr rfl) rfl rfl tw_149 dX10_init_50 (fun H locs hP hS => ?_)
  have hP : pS g b (n + 6) (nfS cw n h (kO_X10_init_6 b n) (kL_X10_init_6 g b n)) H := pS_congr hP (nf_put (N := 6) (kL_X10_init_6_len g b n))
  refine lv_aload_n hx hb dX10_init_53 rfl (lv_at hl 0 rfl) ?_
  refine lv_sipush (v := 1416) hx hb dX10_init_54 (by decide) ?_
  refine k_newI C tw_51 hP hS (N := 1416) (by decide) (by decide) (by decide) (Nat.le_of_ble_eq_true rfl) (Nat.le_of_ble_eq_true rfl) dX10_init_57 (fun H hP hS => ?_)
  have hP : pS g b (n + 7) (nfS cw n h (kO_X10_init_6 b n) (kL_X10_init_7 g b n)) H := pS_congr hP (nf_push (N := 6) hh (kL_X10_init_6_len g b n))
  refine k_put C cf_10 hP hS (show h < n + 7 by omega) nf_self 7 (by decide) (Nat.le_of_ble_eq_true rfl) (Or.inr rfl) rfl rfl tw_150 dX10_init_59 (fun H locs hP hS => ?_)
  have hP : pS g b (n + 7) (nfS cw n h (kO_X10_init_7 b n) (kL_X10_init_7 g b n)) H := pS_congr hP (nf_put (N := 7) (kL_X10_init_7_len g b n))
  refine lv_aload_n hx hb dX10_init_62 rfl (lv_at hl 0 rfl) ?_
  refine lv_bipush (v := 118) hx hb dX10_init_63 (by decide) ?_
  refine k_newI C tw_51 hP hS (N := 118) (by decide) (by decide) (by decide) (Nat.le_of_ble_eq_true rfl) (Nat.le_of_ble_eq_true rfl) dX10_init_65 (fun H hP hS => ?_)
  have hP : pS g b (n + 8) (nfS cw n h (kO_X10_init_7 b n) (kL_X10_init_8 g b n)) H := pS_congr hP (nf_push (N := 7) hh (kL_X10_init_7_len g b n))
  refine k_put C cf_10 hP hS (show h < n + 8 by omega) nf_self 9 (by decide) (Nat.le_of_ble_eq_true rfl) (Or.inr rfl) rfl rfl tw_151 dX10_init_67 (fun H locs hP hS => ?_)
  have hP : pS g b (n + 8) (nfS cw n h (kO_X10_init_8 b n) (kL_X10_init_8 g b n)) H := pS_congr hP (nf_put (N := 8) (kL_X10_init_8_len g b n))
  refine lv_aload_n hx hb dX10_init_70 rfl (lv_at hl 0 rfl) ?_
  refine lv_iconst (v := 2) hx hb dX10_init_71 (by decide) ?_
  refine k_newZ C tw_115 hP hS (N := 2) (by decide) (by decide) (by decide) (Nat.le_of_ble_eq_true rfl) (Nat.le_of_ble_eq_true rfl) dX10_init_72 (fun H hP hS => ?_)
  have hP : pS g b (n + 9) (nfS cw n h (kO_X10_init_8 b n) (kL_X10_init_9 g b n)) H := pS_congr hP (nf_push (N := 8) hh (kL_X10_init_8_len g b n))
  refine k_put C cf_10 hP hS (show h < n + 9 by omega) nf_self 10 (by decide) (Nat.le_of_ble_eq_true rfl) (Or.inr rfl) rfl rfl tw_152 dX10_init_74 (fun H locs hP hS => ?_)
  have hP : pS g b (n + 9) (nfS cw n h (kO_X10_init_9 b n) (kL_X10_init_9 g b n)) H := pS_congr hP (nf_put (N := 9) (kL_X10_init_9_len g b n))
  refine lv_aload_n hx hb dX10_init_77 rfl (lv_at hl 0 rfl) ?_
  refine lv_bipush (v := 90) hx hb dX10_init_78 (by decide) ?_
  refine k_newI C tw_51 hP hS (N := 90) (by decide) (by decide) (by decide) (Nat.le_of_ble_eq_true rfl) (Nat.le_of_ble_eq_true rfl) dX10_init_80 (fun H hP hS => ?_)
  have hP : pS g b (n + 10) (nfS cw n h (kO_X10_init_9 b n) (kL_X10_init_10 g b n)) H := pS_congr hP (nf_push (N := 9) hh (kL_X10_init_9_len g b n))
  refine k_put C cf_10 hP hS (show h < n + 10 by omega) nf_self 11 (by decide) (Nat.le_of_ble_eq_true rfl) (Or.inr rfl) rfl rfl tw_153 dX10_init_82 (fun H locs hP hS => ?_)
  have hP : pS g b (n + 10) (nfS cw n h (kO_X10_init_10 b n) (kL_X10_init_10 g b n)) H := pS_congr hP (nf_put (N := 10) (kL_X10_init_10_len g b n))
  refine lv_aload_n hx hb dX10_init_85 rfl (lv_at hl 0 rfl) ?_
  refine lv_bipush (v := 16) hx hb dX10_init_86 (by decide) ?_
  refine k_newI C tw_51 hP hS (N := 16) (by decide) (by decide) (by decide) (Nat.le_of_ble_eq_true rfl) (Nat.le_of_ble_eq_true rfl) dX10_init_88 (fun H hP hS => ?_)
  have hP : pS g b (n + 11) (nfS cw n h (kO_X10_init_10 b n) (kL_X10_init_11 g b n)) H := pS_congr hP (nf_push (N := 10) hh (kL_X10_init_10_len g b n))
  refine k_put C cf_10 hP hS (show h < n + 11 by omega) nf_self 14 (by decide) (Nat.le_of_ble_eq_true rfl) (Or.inr rfl) rfl rfl tw_154 dX10_init_90 (fun H locs hP hS => ?_)
  have hP : pS g b (n + 11) (nfS cw n h (kO_X10_init_11 b n) (kL_X10_init_11 g b n)) H := pS_congr hP (nf_put (N := 11) (kL_X10_init_11_len g b n))
  refine lv_aload_n hx hb dX10_init_93 rfl (lv_at hl 0 rfl) ?_
  refine lv_sipush (v := 295) hx hb dX10_init_94 (by decide) ?_
  refine k_newI C tw_51 hP hS (N := 295) (by decide) (by decide) (by decide) (Nat.le_of_ble_eq_true rfl) (Nat.le_of_ble_eq_true rfl) dX10_init_97 (fun H hP hS => ?_)
  have hP : pS g b (n + 12) (nfS cw n h (kO_X10_init_11 b n) (kL_X10_init_12 g b n)) H := pS_congr hP (nf_push (N := 11) hh (kL_X10_init_11_len g b n))
  refine k_put C cf_10 hP hS (show h < n + 12 by omega) nf_self 21 (by decide) (Nat.le_of_ble_eq_true rfl) (Or.inr rfl) rfl rfl tw_155 dX10_init_99 (fun H locs hP hS => ?_)
  have hP : pS g b (n + 12) (nfS cw n h (kO_X10_init_12 b n) (kL_X10_init_12 g b n)) H := pS_congr hP (nf_put (N := 12) (kL_X10_init_12_len g b n))
  refine lv_aload_n hx hb dX10_init_102 rfl (lv_at hl 0 rfl) ?_
  refine lv_iconst (v := 5) hx hb dX10_init_103 (by decide) ?_
  refine k_newI C tw_51 hP hS (N := 5) (by decide) (by decide) (by decide) (Nat.le_of_ble_eq_true rfl) (Nat.le_of_ble_eq_true rfl) dX10_init_104 (fun H hP hS => ?_)
  have hP : pS g b (n + 13) (nfS cw n h (kO_X10_init_12 b n) (kL_X10_init_13 g b n)) H := pS_congr hP (nf_push (N := 12) hh (kL_X10_init_12_len g b n))
  refine k_put C cf_10 hP hS (show h < n + 13 by omega) nf_self 22 (by decide) (Nat.le_of_ble_eq_true rfl) (Or.inr rfl) rfl rfl tw_156 dX10_init_106 (fun H locs hP hS => ?_)
  have hP : pS g b (n + 13) (nfS cw n h (kO_X10_init_13 b n) (kL_X10_init_13 g b n)) H := pS_congr hP (nf_put (N := 13) (kL_X10_init_13_len g b n))
  refine lv_aload_n hx hb dX10_init_109 rfl (lv_at hl 0 rfl) ?_
  refine lv_iconst (v := 5) hx hb dX10_init_110 (by decide) ?_
  refine k_newI C tw_51 hP hS (N := 5) (by decide) (by decide) (by decide) (Nat.le_of_ble_eq_true rfl) (Nat.le_of_ble_eq_true rfl) dX10_init_111 (fun H hP hS => ?_)
  have hP : pS g b (n + 14) (nfS cw n h (kO_X10_init_13 b n) (kL_X10_init_14 g b n)) H := pS_congr hP (nf_push (N := 13) hh (kL_X10_init_13_len g b n))
  refine k_put C cf_10 hP hS (show h < n + 14 by omega) nf_self 23 (by decide) (Nat.le_of_ble_eq_true rfl) (Or.inr rfl) rfl rfl tw_157 dX10_init_113 (fun H locs hP hS => ?_)
  have hP : pS g b (n + 14) (nfS cw n h (kO_X10_init_14 b n) (kL_X10_init_14 g b n)) H := pS_congr hP (nf_put (N := 14) (kL_X10_init_14_len g b n))
  refine lv_iconst (v := 0) hx hb dX10_init_116 (by decide) ?_
  refine lv_istore_n (lv' := [(1, .int 0), (0, .ref (b + h))]) hx hb dX10_init_117 rfl hl (by decide) rfl (fun ls hl => ?_)
  refine lv_iload_n hx hb dX10_init_118 rfl (lv_at hl 0 rfl) ?_
  refine lv_bipush (v := 8) hx hb dX10_init_119 (by decide) ?_
  refine lv_icmp_ge (tgt := 137) hx hb dX10_init_121 (by decide) (fun c_ => absurd c_ (by decide)) (fun _ => ?_)
  refine lv_aload_n hx hb dX10_init_124 rfl (lv_at hl 1 rfl) ?_
  refine k_get C cf_10 hP (show h < n + 14 by omega) nf_self 1 (by decide) rfl tw_145 dX10_init_125 ?_
  refine lv_iload_n hx hb dX10_init_128 rfl (lv_at hl 0 rfl) ?_
  refine lv_iconst (v := (-1)) hx hb dX10_init_129 (by decide) ?_
  refine k_iast C hP hS (k := n + 1) (show n + 1 < n + 14 by omega) (nf_at hh (kA_X10_init_14_1 g b n)) (vin_in (by decide)) dX10_init_130 (fun H locs hP hS => ?_)
  have hP : pS g b (n + 14) (nfS cw n h (kO_X10_init_14 b n) (kL_X10_init_15 g b n)) H := pS_congr hP (nf_set (N := 14) (i := 1) hh (kL_X10_init_14_len g b n) (by decide))
  refine lv_iinc (v := 1) (lv' := [(1, .int 1), (0, .ref (b + h))]) hx hb dX10_init_131 hl (k := 0) rfl (by decide) (by decide) rfl (fun ls hl => ?_)
  refine lv_goto (tgt := 118) hx hb dX10_init_134 (by decide) ?_
  refine lv_iload_n hx hb dX10_init_118 rfl (lv_at hl 0 rfl) ?_
  refine lv_bipush (v := 8) hx hb dX10_init_119 (by decide) ?_
  refine lv_icmp_ge (tgt := 137) hx hb dX10_init_121 (by decide) (fun c_ => absurd c_ (by decide)) (fun _ => ?_)
  refine lv_aload_n hx hb dX10_init_124 rfl (lv_at hl 1 rfl) ?_
  refine k_get C cf_10 hP (show h < n + 14 by omega) nf_self 1 (by decide) rfl tw_145 dX10_init_125 ?_
  refine lv_iload_n hx hb dX10_init_128 rfl (lv_at hl 0 rfl) ?_
  refine lv_iconst (v := (-1)) hx hb dX10_init_129 (by decide) ?_
  refine k_iast C hP hS (k := n + 1) (show n + 1 < n + 14 by omega) (nf_at hh (kA_X10_init_15_1 g b n)) (vin_in (by decide)) dX10_init_130 (fun H locs hP hS => ?_)
  have hP : pS g b (n + 14) (nfS cw n h (kO_X10_init_14 b n) (kL_X10_init_16 g b n)) H := pS_congr hP (nf_set (N := 14) (i := 1) hh (kL_X10_init_15_len g b n) (by decide))
  refine lv_iinc (v := 2) (lv' := [(1, .int 2), (0, .ref (b + h))]) hx hb dX10_init_131 hl (k := 0) rfl (by decide) (by decide) rfl (fun ls hl => ?_)
  refine lv_goto (tgt := 118) hx hb dX10_init_134 (by decide) ?_
  refine lv_iload_n hx hb dX10_init_118 rfl (lv_at hl 0 rfl) ?_
  refine lv_bipush (v := 8) hx hb dX10_init_119 (by decide) ?_
  refine lv_icmp_ge (tgt := 137) hx hb dX10_init_121 (by decide) (fun c_ => absurd c_ (by decide)) (fun _ => ?_)
  refine lv_aload_n hx hb dX10_init_124 rfl (lv_at hl 1 rfl) ?_
  refine k_get C cf_10 hP (show h < n + 14 by omega) nf_self 1 (by decide) rfl tw_145 dX10_init_125 ?_
  refine lv_iload_n hx hb dX10_init_128 rfl (lv_at hl 0 rfl) ?_
  refine lv_iconst (v := (-1)) hx hb dX10_init_129 (by decide) ?_
  refine k_iast C hP hS (k := n + 1) (show n + 1 < n + 14 by omega) (nf_at hh (kA_X10_init_16_1 g b n)) (vin_in (by decide)) dX10_init_130 (fun H locs hP hS => ?_)
  have hP : pS g b (n + 14) (nfS cw n h (kO_X10_init_14 b n) (kL_X10_init_17 g b n)) H := pS_congr hP (nf_set (N := 14) (i := 1) hh (kL_X10_init_16_len g b n) (by decide))
  refine lv_iinc (v := 3) (lv' := [(1, .int 3), (0, .ref (b + h))]) hx hb dX10_init_131 hl (k := 0) rfl (by decide) (by decide) rfl (fun ls hl => ?_)
  refine lv_goto (tgt := 118) hx hb dX10_init_134 (by decide) ?_
  refine lv_iload_n hx hb dX10_init_118 rfl (lv_at hl 0 rfl) ?_
  refine lv_bipush (v := 8) hx hb dX10_init_119 (by decide) ?_
  refine lv_icmp_ge (tgt := 137) hx hb dX10_init_121 (by decide) (fun c_ => absurd c_ (by decide)) (fun _ => ?_)
  refine lv_aload_n hx hb dX10_init_124 rfl (lv_at hl 1 rfl) ?_
  refine k_get C cf_10 hP (show h < n + 14 by omega) nf_self 1 (by decide) rfl tw_145 dX10_init_125 ?_
  refine lv_iload_n hx hb dX10_init_128 rfl (lv_at hl 0 rfl) ?_
  refine lv_iconst (v := (-1)) hx hb dX10_init_129 (by decide) ?_
  refine k_iast C hP hS (k := n + 1) (show n + 1 < n + 14 by omega) (nf_at hh (kA_X10_init_17_1 g b n)) (vin_in (by decide)) dX10_init_130 (fun H locs hP hS => ?_)
  have hP : pS g b (n + 14) (nfS cw n h (kO_X10_init_14 b n) (kL_X10_init_18 g b n)) H := pS_congr hP (nf_set (N := 14) (i := 1) hh (kL_X10_init_17_len g b n) (by decide))
  refine lv_iinc (v := 4) (lv' := [(1, .int 4), (0, .ref (b + h))]) hx hb dX10_init_131 hl (k := 0) rfl (by decide) (by decide) rfl (fun ls hl => ?_)
  refine lv_goto (tgt := 118) hx hb dX10_init_134 (by decide) ?_
  refine lv_iload_n hx hb dX10_init_118 rfl (lv_at hl 0 rfl) ?_
  refine lv_bipush (v := 8) hx hb dX10_init_119 (by decide) ?_
  refine lv_icmp_ge (tgt := 137) hx hb dX10_init_121 (by decide) (fun c_ => absurd c_ (by decide)) (fun _ => ?_)
  refine lv_aload_n hx hb dX10_init_124 rfl (lv_at hl 1 rfl) ?_
  refine k_get C cf_10 hP (show h < n + 14 by omega) nf_self 1 (by decide) rfl tw_145 dX10_init_125 ?_
  refine lv_iload_n hx hb dX10_init_128 rfl (lv_at hl 0 rfl) ?_
  refine lv_iconst (v := (-1)) hx hb dX10_init_129 (by decide) ?_
  refine k_iast C hP hS (k := n + 1) (show n + 1 < n + 14 by omega) (nf_at hh (kA_X10_init_18_1 g b n)) (vin_in (by decide)) dX10_init_130 (fun H locs hP hS => ?_)
  have hP : pS g b (n + 14) (nfS cw n h (kO_X10_init_14 b n) (kL_X10_init_19 g b n)) H := pS_congr hP (nf_set (N := 14) (i := 1) hh (kL_X10_init_18_len g b n) (by decide))
  refine lv_iinc (v := 5) (lv' := [(1, .int 5), (0, .ref (b + h))]) hx hb dX10_init_131 hl (k := 0) rfl (by decide) (by decide) rfl (fun ls hl => ?_)
  refine lv_goto (tgt := 118) hx hb dX10_init_134 (by decide) ?_
  refine lv_iload_n hx hb dX10_init_118 rfl (lv_at hl 0 rfl) ?_
  refine lv_bipush (v := 8) hx hb dX10_init_119 (by decide) ?_
  refine lv_icmp_ge (tgt := 137) hx hb dX10_init_121 (by decide) (fun c_ => absurd c_ (by decide)) (fun _ => ?_)
  refine lv_aload_n hx hb dX10_init_124 rfl (lv_at hl 1 rfl) ?_
  refine k_get C cf_10 hP (show h < n + 14 by omega) nf_self 1 (by decide) rfl tw_145 dX10_init_125 ?_
  refine lv_iload_n hx hb dX10_init_128 rfl (lv_at hl 0 rfl) ?_
  refine lv_iconst (v := (-1)) hx hb dX10_init_129 (by decide) ?_
  refine k_iast C hP hS (k := n + 1) (show n + 1 < n + 14 by omega) (nf_at hh (kA_X10_init_19_1 g b n)) (vin_in (by decide)) dX10_init_130 (fun H locs hP hS => ?_)
  have hP : pS g b (n + 14) (nfS cw n h (kO_X10_init_14 b n) (kL_X10_init_20 g b n)) H := pS_congr hP (nf_set (N := 14) (i := 1) hh (kL_X10_init_19_len g b n) (by decide))
  refine lv_iinc (v := 6) (lv' := [(1, .int 6), (0, .ref (b + h))]) hx hb dX10_init_131 hl (k := 0) rfl (by decide) (by decide) rfl (fun ls hl => ?_)
  refine lv_goto (tgt := 118) hx hb dX10_init_134 (by decide) ?_
  refine lv_iload_n hx hb dX10_init_118 rfl (lv_at hl 0 rfl) ?_
  refine lv_bipush (v := 8) hx hb dX10_init_119 (by decide) ?_
  refine lv_icmp_ge (tgt := 137) hx hb dX10_init_121 (by decide) (fun c_ => absurd c_ (by decide)) (fun _ => ?_)
  refine lv_aload_n hx hb dX10_init_124 rfl (lv_at hl 1 rfl) ?_
  refine k_get C cf_10 hP (show h < n + 14 by omega) nf_self 1 (by decide) rfl tw_145 dX10_init_125 ?_
  refine lv_iload_n hx hb dX10_init_128 rfl (lv_at hl 0 rfl) ?_
  refine lv_iconst (v := (-1)) hx hb dX10_init_129 (by decide) ?_
  refine k_iast C hP hS (k := n + 1) (show n + 1 < n + 14 by omega) (nf_at hh (kA_X10_init_20_1 g b n)) (vin_in (by decide)) dX10_init_130 (fun H locs hP hS => ?_)
  have hP : pS g b (n + 14) (nfS cw n h (kO_X10_init_14 b n) (kL_X10_init_21 g b n)) H := pS_congr hP (nf_set (N := 14) (i := 1) hh (kL_X10_init_20_len g b n) (by decide))
  refine lv_iinc (v := 7) (lv' := [(1, .int 7), (0, .ref (b + h))]) hx hb dX10_init_131 hl (k := 0) rfl (by decide) (by decide) rfl (fun ls hl => ?_)
  refine lv_goto (tgt := 118) hx hb dX10_init_134 (by decide) ?_
  refine lv_iload_n hx hb dX10_init_118 rfl (lv_at hl 0 rfl) ?_
  refine lv_bipush (v := 8) hx hb dX10_init_119 (by decide) ?_
  refine lv_icmp_ge (tgt := 137) hx hb dX10_init_121 (by decide) (fun c_ => absurd c_ (by decide)) (fun _ => ?_)
  refine lv_aload_n hx hb dX10_init_124 rfl (lv_at hl 1 rfl) ?_
  refine k_get C cf_10 hP (show h < n + 14 by omega) nf_self 1 (by decide) rfl tw_145 dX10_init_125 ?_
  refine lv_iload_n hx hb dX10_init_128 rfl (lv_at hl 0 rfl) ?_
  refine lv_iconst (v := (-1)) hx hb dX10_init_129 (by decide) ?_
  refine k_iast C hP hS (k := n + 1) (show n + 1 < n + 14 by omega) (nf_at hh (kA_X10_init_21_1 g b n)) (vin_in (by decide)) dX10_init_130 (fun H locs hP hS => ?_)
  have hP : pS g b (n + 14) (nfS cw n h (kO_X10_init_14 b n) (kL_X10_init_22 g b n)) H := pS_congr hP (nf_set (N := 14) (i := 1) hh (kL_X10_init_21_len g b n) (by decide))
  refine lv_iinc (v := 8) (lv' := [(1, .int 8), (0, .ref (b + h))]) hx hb dX10_init_131 hl (k := 0) rfl (by decide) (by decide) rfl (fun ls hl => ?_)
  refine lv_goto (tgt := 118) hx hb dX10_init_134 (by decide) ?_
  refine lv_iload_n hx hb dX10_init_118 rfl (lv_at hl 0 rfl) ?_
  refine lv_bipush (v := 8) hx hb dX10_init_119 (by decide) ?_
  refine lv_icmp_ge (tgt := 137) hx hb dX10_init_121 (by decide) (fun _ => ?_) (fun c_ => absurd (by decide) c_)
  exact k_ret C hP hS dX10_init_137
