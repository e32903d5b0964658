def Cb (g : Gw) (p : Program) (s : State) (m : MethodId) (args : Array Value) (c : Code) (cc : ByteArray) (nL : Nat) (own : String) : Prop :=
  p.tables.exec = Jvm.exec ∧ c.code = cc ∧ c.maxLocals = nL ∧ s.vm.findClass own = some m.cls ∧ (∀ w ∈ wsL_law, w.before args s = true) ∧ KS g s ∧ NC s
section LNW
variable {g : Gw} {p : Program} {l : Launch} {e : Env} {R : Room} {s : State} {m : MethodId} {args : Array Value} {below : List Frame} {meth : Method} {c : Code} {H : Heap} {locs : List Loc} {cells slots : Nat} {Q : State → Prop}
variable {cc : ByteArray} {nL : Nat} {own : String} {pc : Nat} {ls : Array Slot} {rest : List Value} {b b0 n k : Nat} {cw : Nat → va_E}
theorem lk_new (C : Cb g p s m args c cc nL own) {ci N index : Nat} {Cn : String} {T : u_T} {ty : Nat → FieldType} (F : ClF ci Cn T N ty) (h1 : Cond.classLink own index Cn ∈ wsL_law) (h2 : Cond.instantiable Cn N ∈ wsL_law) (h3 : Cond.initialized Cn ∈ wsL_law) (hP : pS g b n cw H) (hS : va_S (bA b0) s.heap H locs) {fs : List Value} (hfs : ∀ j, j < N → defaultValue (ty j) = vp_V fs j) (hc : cells + 1 ≤ R.cells) (hs : slots + N ≤ R.slots) (hdg : decode cc pc = .ok (.new index, 3))
    (kk : ∀ H1 : Heap, pS g b (n + 1) (va_up cw n (.inr (ci, fs))) H1 → (∀ q : Nat, q < H.size → H1[q]? = H[q]?) → va_S (bA b0) s.heap H1 locs → W p l e R s m args below meth c H1 locs (cells + 1) (slots + N) Q (F0 m (pc + 3) ls (.ref (b + n) :: rest))) : W p l e R s m args below meth c H locs cells slots Q (F0 m pc ls rest) := by
  obtain ⟨hx, hb, hml, hown, hts, hK, hN⟩ := C
  have hKn := hK.1 ci _ F.1
  refine W.newcK hx hb hown (hts _ h1) (hts _ h2) (hts _ h3) rfl hdg hc hs hKn.2.1 hP.1 fun H1 kC hkC e1 z1 o1 => ?_
  have o2 : ∀ q : Nat, q < H.size → H1[q]? = H[q]? := fun q hq => o1 q (by rw [← hP.1]; exact hq)
  have z2 : H1.size = H.size + 1 := by rw [z1, hP.1]
  exact kk H1 (pS_push hP z2 o2 ⟨_, F.1, (u_born ty hts F.2.1 hKn hkC e1 F.2.2.1).to hfs⟩) o2 (bS_push hS z2 o2)
variable {y : MethodName} {cy : ByteArray} {ny hh index mc ms na : Nat} {As : List Value} {Pre Post : Heap → Prop} {a : Nat}
theorem lk_callI (C : Cb g p s m args c cc nL own) (V : CaI y cy ny na) (hw : Cond.methodLink own index y ∈ wsL_law) (hM : MtC l y cy ny hh mc ms g b (.ref a :: As) Pre Post) (hP : Pre H) (hS : va_S (bA b0) s.heap H locs) (hb0 : b0 ≤ b) (hn : As.length = na) (hls : ls.size = nL) (hrest : (rest.map fun v => v.category).sum ≤ 8) (hR : hh + 1 ≤ R.frames ∧ 8 + (ny + 11) + 40 * hh ≤ R.locals) (hc : cells + mc ≤ R.cells ∧ slots + ms ≤ R.slots) (hdg : decode cc pc = .ok (.invokespecial index, 3))
    (kk : ∀ (H1 : Heap) (locs1 : List Loc), Post H1 → (∀ q : Nat, q < H.size → q < b → H1[q]? = H[q]?) → va_S (bA b0) s.heap H1 locs1 → W p l e R s m args below meth c H1 locs1 (cells + mc) (slots + ms) Q (F0 m (pc + 3) ls rest)) : W p l e R s m args below meth c H locs cells slots Q (F0 m pc ls (As.reverse ++ .ref a :: rest)) := by
  obtain ⟨h1, h2, h3, h4, hd⟩ := V
  have hG : GoodIn wsL_law (.code y cy ny none :: wsL_law) := tb_goodIn (fun q hq => (List.mem_cons.mp hq).elim (fun e => e ▸ h3) id)
  refine va_callv (va_runI (S := ⟨C.1, C.2.1, C.2.2.1, C.2.2.2.1, C.2.2.2.2.1⟩) hM (cwI na C.2.2.2.2.1 hG rfl rfl rfl (C.2.2.2.2.1 _ h2) (C.2.2.2.2.1 _ hw) (C.2.2.2.2.1 _ h1) h4 hd hR) ⟨pcc_blind _ _ _, fun U hU hW => ⟨rfl, by rw [hU]; exact hP, va_K.moved hW.alike C.2.2.2.2.2.1, nc_moved C.2.2.2.2.2.2 hW⟩⟩ rfl hn hls rfl (lv_room hrest) hdg hc) hS (fun q _ h => Nat.le_trans hb0 h) (fun q h => Nat.le_trans hb0 h) (fun u t H1 locs1 ht hvm hp hB hz hk hS1 => ?_)
  exact kk H1 locs1 (by rw [← ht]; exact hB) (fun q q1 q2 => hk q q1 (Nat.not_le.mpr q2)) hS1
end LNW
theorem wS_keep {w : Wk} {g : Gw} {σ : Sto} {H H1 : Heap} (h : wS w g σ H) (hk : ∀ q, AS w g q → H1[q]? = H[q]?) : wS w g σ H1 := by
  refine ⟨h.1.kept (fun k q hq => ?_), h.2⟩
  obtain ⟨h2, rfl⟩ := wlS_at hq
  exact hk _ ⟨k, h2, rfl⟩
theorem wS_lt {w : Wk} {g : Gw} {σ : Sto} {H : Heap} (h : wS w g σ H) : ∀ q, AS w g q → q < H.size := by
  rintro q ⟨k, hk, rfl⟩
  exact (h.1 k _ (wlS_get hk)).lt
