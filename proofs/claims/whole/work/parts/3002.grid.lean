theorem kg_outer (c : ClassId) (N h0 : Nat) : ∀ i : Nat, Jvm.Free.Multi.outerC c N h0 i = arrV c N (fun j => va_rf (if j < i then some (h0 + 1 + j) else none))
  | 0 => by
    show ({ cls := c, slots := Array.replicate N .null, vm := .none } : Cell) = _
    rw [arrV_new]
    refine congrArg (arrV c N) (funext fun j => ?_)
    simp [va_rf]
  | i + 1 => by
    show (Jvm.Free.Multi.outerC c N h0 i).setSlot i (.ref (h0 + 1 + i)) = _
    rw [kg_outer c N h0 i, arrV_store]
    refine congrArg (arrV c N) (funext fun j => ?_)
    by_cases e : j = i
    · subst e
      simp [updV, va_rf]
    · by_cases h : j < i
      · simp [updV, e, h, Nat.lt_succ_of_lt h]
      · simp [updV, e, h, show ¬ j < i + 1 by omega]
def cwG (g : Gw) (b n : Nat) (cw : Nat → va_E) : Nat → va_E := fun k => if k = n then .inl (g.2.1 3, 8, .inr (.inr (.inr (.inr (fun i => if i < 8 then some (b + n + 1 + i) else none))))) else if n < k then .inl (g.2.1 0, 40, .inl (fun _ => 0)) else cw k
theorem k_mna {g : Gw} {p : Program} {l : Launch} {e : Env} {R : Room} {s : State} {m : MethodId} {args : Array Value} {below : List Frame} {meth : Method} {c : Code} {H : Heap} {locs : List Loc} {cells slots : Nat} {Q : State → Prop} {cc : ByteArray} {nL : Nat} {own : String} {pc : Nat} {ls : Array Slot} {rest : List Value} {b n : Nat} {cw : Nat → va_E} (C : Cc g p s m args meth c cc nL own) {index : Nat} (h1 : (Cond.classLink own index ("[" ++ (FieldType.array .int).toString)).before args s = true) (h2 : Cond.arrayClass .int ∈ wsL_law) (hP : pS g b n cw H) (hS : va_S (bA b) s.heap H locs) (hc : cells + (1 + 8) ≤ R.cells) (hs : slots + (8 + 8 * 40) ≤ R.slots) (hdg : decode cc pc = .ok (.multianewarray index 2, 4))
    (kk : ∀ H1 : Heap, pS g b (n + 9) (cwG g b n cw) H1 → va_S (bA b) s.heap H1 locs → W p l e R s m args below meth c H1 locs (cells + 1 + 8) (slots + 8 + 8 * 40) Q (F0 m (pc + 4) ls (.ref (b + n) :: rest))) : W p l e R s m args below meth c H locs cells slots Q (F0 m pc ls (.int 40 :: .int 8 :: rest)) := by
  obtain ⟨hx, hb, hml, hown, hts, hr, hlk, hK, hN, hin⟩ := C
  intro T hT Xs
  have h8 : (8 : Int32).toNatClampNeg = 8 := by decide
  have h40 : (40 : Int32).toNatClampNeg = 40 := by decide
  obtain ⟨vm₁, cA, comp, -, fA, fC, hO, -, X', step⟩ := Xs.multianewarray2F hx hown h1 hN.2.2 (hts _ h2) (g := F0 m pc ls (.int 40 :: .int 8 :: rest)) rfl (by rw [hb]; exact hdg) rfl (by decide) (by decide) (by decide) (by decide) (by decide) rfl rfl (by rw [h8]; exact hc) (by rw [h8, h40]; exact hs)
  rw [h8, h40] at X' step
  have hcA : g.2.1 3 = cA := by
    have q4 : s.vm.findClass ("[" ++ (FieldType.array .int).toString) = some (g.2.1 3) := (hK.2 3 (g.2.1 3, .array .int) rfl).2
    exact Option.some.inj (q4.symm.trans fA)
  have hcB : g.2.1 0 = comp := by
    have q4 : s.vm.findClass ("[" ++ FieldType.int.toString) = some (g.2.1 0) := (hK.2 0 (g.2.1 0, .int) rfl).2
    exact Option.some.inj (q4.symm.trans fC)
  subst hcA
  subst hcB
  generalize hF : Jvm.Free.Multi.fill (T.setVm vm₁) (g.2.1 3) (g.2.1 0) 8 40 (defaultValue .int) 8 = F at X' step
  have hTh : (T.setVm vm₁).heap = H := hT
  obtain ⟨f1, f2, -, -⟩ := Jvm.Free.Multi.fill_facts (T.setVm vm₁) (g.2.1 3) (g.2.1 0) 8 40 (defaultValue .int) 8
  rw [hF, hTh] at f1 f2
  have hold : ∀ x : Nat, x < H.size → F.heap[x]? = H[x]? := fun x hx => by
    have := Jvm.Free.Multi.fill_old (T.setVm vm₁) (g.2.1 3) (g.2.1 0) 8 40 (defaultValue .int) (a := x) (by rw [hTh]; exact hx) 8
    rw [hF, hTh] at this
    exact this
  have hrow : ∀ j : Nat, j < 8 → F.heap[H.size + 1 + j]? = some (arrV (g.2.1 0) 40 (fun _ => .int 0)) := fun j hj => by
    have := Jvm.Free.Multi.fill_inner (T.setVm vm₁) (g.2.1 3) (g.2.1 0) 8 40 (defaultValue .int) 8 j hj
    rw [hF, hTh] at this
    rw [this, ← arrV_new]
    rfl
  rw [kg_outer] at f2
  have z : F.heap.size = b + (n + 9) := by rw [f1, hP.1]; omega
  have W1 : pS g b (n + 9) (cwG g b n cw) F.heap := by
    refine pS_of z (fun k hk => ?_)
    unfold cwG
    by_cases e1 : k = n
    · subst e1
      rw [if_pos rfl]
      show F.heap[b + k]? = some (vp_cell _ _)
      rw [← hP.1, f2, vp_cell_q]
    · rw [if_neg e1]
      by_cases e2 : n < k
      · rw [if_pos e2]
        show F.heap[b + k]? = some (vp_cell _ _)
        have e3 := hrow (k - n - 1) (by omega)
        rw [hP.1, show b + n + 1 + (k - n - 1) = b + k by omega] at e3
        exact e3
      · rw [if_neg e2]
        exact (pS_at hP (by omega)).kept (hold _ (by show b + k < _; rw [hP.1]; omega))
  have W2 : va_S (bA b) s.heap F.heap locs := ⟨by rw [f1]; have := hS.1; omega, fun q q1 q2 => (hold q (Nat.lt_of_lt_of_le q1 hS.1)).trans (hS.2.1 q q1 q2), hS.2.2⟩
  obtain ⟨t, a1, b1⟩ := kk F.heap W1 W2 F rfl X'
  refine ⟨t, step t ?_, b1⟩
  rw [hT, hP.1]
  exact a1
