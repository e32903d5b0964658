/-! the world while it is being made: n cells from the address b on, what each holds -/
def plS (b n : Nat) (cw : Nat → va_E) : va_W := (List.range n).map (fun k => (b + k, cw k))
def pS (g : Gw) (b n : Nat) (cw : Nat → va_E) (H : Heap) : Prop := H.size = b + n ∧ va_P g.1 vwCl (plS b n cw) H
def bA (b : Nat) : Nat → Prop := fun q => b ≤ q
theorem plS_get {b n k : Nat} {cw : Nat → va_E} (hk : k < n) : (plS b n cw)[k]? = some (b + k, cw k) := by simp [plS, hk]
theorem plS_len (b n : Nat) (cw : Nat → va_E) : (plS b n cw).length = n := by simp [plS]
theorem plS_at {b n k : Nat} {cw : Nat → va_E} {q : Nat × va_E} (h : (plS b n cw)[k]? = some q) : k < n ∧ q = (b + k, cw k) := by
  have hk : k < n := by
    have := (List.getElem?_eq_some_iff.mp h).1
    rwa [plS_len] at this
  rw [plS_get hk] at h
  exact ⟨hk, (Option.some.inj h).symm⟩
theorem plS_D (b n : Nat) (cw : Nat → va_E) : va_D (bA b) (plS b n cw) := by
  refine ⟨fun i j p q hi hj hpq => ?_, fun k q hk => ?_⟩
  · obtain ⟨h1, rfl⟩ := plS_at hi
    obtain ⟨h2, rfl⟩ := plS_at hj
    have : b + i = b + j := hpq
    omega
  · obtain ⟨h1, rfl⟩ := plS_at hk
    exact Nat.le_add_right b k
theorem plS_set {b n k : Nat} {cw : Nat → va_E} {E : va_E} (hk : k < n) : (plS b n cw).set k (b + k, E) = plS b n (va_up cw k E) := by
  apply List.ext_getElem?
  intro j
  by_cases hj : j < n
  · by_cases hjk : j = k
    · subst hjk
      rw [List.getElem?_set_self (by rw [plS_len]; exact hj), plS_get hj]
      simp [va_up]
    · rw [List.getElem?_set_ne (Ne.symm hjk), plS_get hj, plS_get hj]
      simp [va_up, hjk]
  · rw [List.getElem?_eq_none (by rw [List.length_set, plS_len]; omega), List.getElem?_eq_none (by rw [plS_len]; omega)]
theorem pS_at {g : Gw} {b n k : Nat} {cw : Nat → va_E} {H : Heap} (h : pS g b n cw H) (hk : k < n) : va_at g.1 vwCl (b + k, cw k) H := h.2 k _ (plS_get hk)
theorem pS_of {g : Gw} {b n : Nat} {cw : Nat → va_E} {H : Heap} (hz : H.size = b + n) (h : ∀ k, k < n → va_at g.1 vwCl (b + k, cw k) H) : pS g b n cw H := ⟨hz, fun k q hq => by
  obtain ⟨hk, rfl⟩ := plS_at hq
  exact h k hk⟩
theorem pS_congr {g : Gw} {b n : Nat} {cw cw' : Nat → va_E} {H : Heap} (h : pS g b n cw H) (he : ∀ k, k < n → cw k = cw' k) : pS g b n cw' H := pS_of h.1 (fun k hk => by rw [← he k hk]; exact pS_at h hk)
theorem pS_push {g : Gw} {b n : Nat} {cw : Nat → va_E} {E : va_E} {H H1 : Heap} (h : pS g b n cw H) (hz : H1.size = H.size + 1) (ho : ∀ q : Nat, q < H.size → H1[q]? = H[q]?) (he : va_at g.1 vwCl (b + n, E) H1) : pS g b (n + 1) (va_up cw n E) H1 := by
  refine pS_of (by rw [hz, h.1]; omega) (fun k hk => ?_)
  by_cases hkn : k = n
  · subst hkn
    simp only [va_up, if_pos]
    exact he
  · simp only [va_up, if_neg hkn]
    exact (pS_at h (by omega)).kept (ho _ (by show b + k < _; rw [h.1]; omega))
theorem bS_push {b : Nat} {H0 H H1 : Heap} {locs : List Loc} (hS : va_S (bA b) H0 H locs) (hz : H1.size = H.size + 1) (ho : ∀ q : Nat, q < H.size → H1[q]? = H[q]?) : va_S (bA b) H0 H1 locs :=
  ⟨by rw [hz]; exact Nat.le_succ_of_le hS.1, fun q h1 h2 => (ho q (Nat.lt_of_lt_of_le h1 hS.1)).trans (hS.2.1 q h1 h2), hS.2.2⟩
/-- the words on nest mates' constructors; arrays over villages and over rows of ints -/
def nlC : List (String × Nat × MethodName) := [(RX9, 18, yX6_init), (RX9, 25, yX8_init), (RX9, 43, yX5_init), (RX9, 50, yX1_init), (RX9, 57, yX7_init), (RX9, 64, yX0_init), (RX3, 24, yX8_init), (RX5, 11, yX8_init), (RX6, 11, yX8_init), (RX7, 13, yX8_init)]
def vaAA (t : FieldType) (U : State) : Prop := (Cond.arrayOver (.array t)).before #[] U = true
def NC (U : State) : Prop := (∀ (i : Nat) (q : String × Nat × MethodName), nlC[i]? = some q → va_Nw (.methodLinkNest q.1 q.2.1 q.2.2 "LavaLodger") U) ∧ va_AO "LavaLodger$Village" U ∧ vaAA .int U
def Cc (g : Gw) (p : Program) (s : State) (m : MethodId) (args : Array Value) (meth : Method) (c : Code) (cc : ByteArray) (nL : Nat) (own : String) : Prop :=
  p.tables.exec = Jvm.exec ∧ c.code = cc ∧ c.maxLocals = nL ∧ s.vm.findClass own = some m.cls ∧ (∀ w ∈ wsL_law, w.before args s = true) ∧ meth.sig.returnType = none ∧ meth.locks = false ∧ KS g s ∧ NC s ∧ meth.name = "<init>"
section GRW
variable {g : Gw} {p : Program} {l : Launch} {e : Env} {R : Room} {s : State} {m : MethodId} {args : Array Value} {below : List Frame} {meth : Method} {c : Code} {H : Heap} {locs : List Loc} {cells slots : Nat} {Q : State → Prop}
variable {cc : ByteArray} {nL : Nat} {own : String} {pc : Nat} {ls : Array Slot} {rest : List Value} {b n k : Nat} {cw : Nat → va_E}
theorem k_obj (C : Cc g p s m args meth c cc nL own) (hls : ls.size = nL) {idx : Nat} (h1 : Cond.methodLink own idx objectInit ∈ wsL_law) (h2 : Cond.instanceMethod objectInit ∈ wsL_law) (h3 : Cond.code objectInit ⟨#[0xb1]⟩ 1 none ∈ wsL_law) {a : Nat} (hR : 1 ≤ R.frames ∧ (rest.map fun v => v.category).sum + 12 ≤ R.locals) (hdg : decode cc pc = .ok (.invokespecial idx, 3))
    (kk : W p l e R s m args below meth c H locs cells slots Q (F0 m (pc + 3) ls rest)) : W p l e R s m args below meth c H locs cells slots Q (F0 m pc ls (.ref a :: rest)) := by
  obtain ⟨hx, hb, hml, hown, hts, hr, hlk, hK, hN, hin⟩ := C
  exact W.objInit hx hb hown (hts _ h1) (hts _ h2) (hts _ h3) rfl (hls.trans hml.symm) rfl hdg hR.1 (by show 2 * 0 + _ + 12 ≤ _; have := hR.2; omega) kk
theorem k_new (C : Cc g p s m args meth c cc nL own) {ci N index : Nat} {Cn : String} {T : u_T} {ty : Nat → FieldType} (F : ClF ci Cn T N ty) (h1 : Cond.classLink own index Cn ∈ wsL_law) (h2 : Cond.instantiable Cn N ∈ wsL_law) (h3 : Cond.initialized Cn ∈ wsL_law) (hP : pS g b n cw H) (hS : va_S (bA b) s.heap H locs) {fs : List Value} (hfs : ∀ j, j < N → defaultValue (ty j) = vp_V fs j) (hc : cells + 1 ≤ R.cells) (hs : slots + N ≤ R.slots) (hdg : decode cc pc = .ok (.new index, 3))
    (kk : ∀ H1 : Heap, pS g b (n + 1) (va_up cw n (.inr (ci, fs))) H1 → va_S (bA b) s.heap H1 locs → W p l e R s m args below meth c H1 locs (cells + 1) (slots + N) Q (F0 m (pc + 3) ls (.ref (b + n) :: rest))) : W p l e R s m args below meth c H locs cells slots Q (F0 m pc ls rest) := by
  obtain ⟨hx, hb, hml, hown, hts, hr, hlk, hK, hN, hin⟩ := C
  have hKn := hK.1 ci _ F.1
  refine W.newcK hx hb hown (hts _ h1) (hts _ h2) (hts _ h3) rfl hdg hc hs hKn.2.1 hP.1 fun H1 kC hkC e1 z1 o1 => ?_
  have o2 : ∀ q : Nat, q < H.size → H1[q]? = H[q]? := fun q hq => o1 q (by rw [← hP.1]; exact hq)
  have z2 : H1.size = H.size + 1 := by rw [z1, hP.1]
  exact kk H1 (pS_push hP z2 o2 ⟨_, F.1, (u_born ty hts F.2.1 hKn hkC e1 F.2.2.1).to hfs⟩) (bS_push hS z2 o2)
theorem k_newI (C : Cc g p s m args meth c cc nL own) (h1 : Cond.arrayClass .int ∈ wsL_law) (hP : pS g b n cw H) (hS : va_S (bA b) s.heap H locs) {x : Int32} {N : Nat} (hx0 : ¬ x < 0) (hN : x.toNatClampNeg = N) (hby : N * 4 ≤ 536870912) (hc : cells + 1 ≤ R.cells) (hs : slots + N ≤ R.slots) (hdg : decode cc pc = .ok (.newarray .int, 2))
    (kk : ∀ H1 : Heap, pS g b (n + 1) (va_up cw n (.inl (g.2.1 0, N, .inl (fun _ => 0)))) H1 → va_S (bA b) s.heap H1 locs → W p l e R s m args below meth c H1 locs (cells + 1) (slots + N) Q (F0 m (pc + 2) ls (.ref (b + n) :: rest))) : W p l e R s m args below meth c H locs cells slots Q (F0 m pc ls (.int x :: rest)) := by
  obtain ⟨hx, hb, hml, hown, hts, hr, hlk, hK, hNc, hin⟩ := C
  refine va_newaK (atype := .int) hx hb (hts _ h1) rfl hdg rfl hx0 hN hby hc hs hP.1 fun H1 cA e1 z1 o1 hAr hNm => ?_
  have hcA : g.2.1 0 = cA := Option.some.inj ((hK.2 0 (g.2.1 0, .int) rfl).2.symm.trans hNm)
  subst hcA
  have o2 : ∀ q : Nat, q < H.size → H1[q]? = H[q]? := fun q hq => o1 q (by rw [← hP.1]; exact hq)
  have z2 : H1.size = H.size + 1 := by rw [z1, hP.1]
  exact kk H1 (pS_push hP z2 o2 e1) (bS_push hS z2 o2)
theorem k_newZ (C : Cc g p s m args meth c cc nL own) (h1 : Cond.arrayClass .boolean ∈ wsL_law) (hP : pS g b n cw H) (hS : va_S (bA b) s.heap H locs) {x : Int32} {N : Nat} (hx0 : ¬ x < 0) (hN : x.toNatClampNeg = N) (hby : N * componentBytes .boolean ≤ 536870912) (hc : cells + 1 ≤ R.cells) (hs : slots + N ≤ R.slots) (hdg : decode cc pc = .ok (.newarray .boolean, 2))
    (kk : ∀ H1 : Heap, pS g b (n + 1) (va_up cw n (.inl (g.2.1 1, N, .inl (fun _ => 0)))) H1 → va_S (bA b) s.heap H1 locs → W p l e R s m args below meth c H1 locs (cells + 1) (slots + N) Q (F0 m (pc + 2) ls (.ref (b + n) :: rest))) : W p l e R s m args below meth c H locs cells slots Q (F0 m pc ls (.int x :: rest)) := by
  obtain ⟨hx, hb, hml, hown, hts, hr, hlk, hK, hNc, hin⟩ := C
  refine va_newaK (atype := .boolean) hx hb (hts _ h1) rfl hdg rfl hx0 hN hby hc hs hP.1 fun H1 cA e1 z1 o1 hAr hNm => ?_
  have hcA : g.2.1 1 = cA := Option.some.inj ((hK.2 1 (g.2.1 1, .boolean) rfl).2.symm.trans hNm)
  subst hcA
  have o2 : ∀ q : Nat, q < H.size → H1[q]? = H[q]? := fun q hq => o1 q (by rw [← hP.1]; exact hq)
  have z2 : H1.size = H.size + 1 := by rw [z1, hP.1]
  exact kk H1 (pS_push hP z2 o2 e1) (bS_push hS z2 o2)
theorem k_anew (C : Cc g p s m args meth c cc nL own) {index : Nat} (h1 : Cond.classLink own index "LavaLodger$Village" ∈ wsL_law) (hP : pS g b n cw H) (hS : va_S (bA b) s.heap H locs) {x : Int32} {N : Nat} (hx0 : ¬ x < 0) (hN : x.toNatClampNeg = N) (hby : N * 4 ≤ 536870912) (hc : cells + 1 ≤ R.cells) (hs : slots + N ≤ R.slots) (hdg : decode cc pc = .ok (.anewarray index, 3))
    (kk : ∀ H1 : Heap, pS g b (n + 1) (va_up cw n (.inl (g.2.1 2, N, .inr (.inr (.inr (.inr (fun _ => none))))))) H1 → va_S (bA b) s.heap H1 locs → W p l e R s m args below meth c H1 locs (cells + 1) (slots + N) Q (F0 m (pc + 3) ls (.ref (b + n) :: rest))) : W p l e R s m args below meth c H locs cells slots Q (F0 m pc ls (.int x :: rest)) := by
  obtain ⟨hx, hb, hml, hown, hts, hr, hlk, hK, hNc, hin⟩ := C
  subst hN
  refine W.anew hx hb hown (hts _ h1) (va_AO.use hNc.2.1) rfl hdg rfl hx0 hby hc hs fun cA kA comp f1 f2 f3 f4 => ?_
  have hcA : g.2.1 2 = cA := by
    obtain ⟨kA', comp', -, -, -, q4⟩ := (hK.2 2 (g.2.1 2, .object "LavaLodger$Village") rfl).2
    exact Option.some.inj (q4.symm.trans f1)
  subst hcA
  have o2 : ∀ q : Nat, q < H.size → (H.push ({ cls := g.2.1 2, slots := Array.replicate x.toNatClampNeg .null, vm := .none } : Cell))[q]? = H[q]? := fun q hq => by rw [Array.getElem?_push, if_neg (Nat.ne_of_lt hq)]
  have z2 : (H.push ({ cls := g.2.1 2, slots := Array.replicate x.toNatClampNeg .null, vm := .none } : Cell)).size = H.size + 1 := by rw [Array.size_push]
  have e1 : (H.push ({ cls := g.2.1 2, slots := Array.replicate x.toNatClampNeg .null, vm := .none } : Cell))[b + n]? = some (vp_cell (g.2.1 2) (x.toNatClampNeg, .inr (.inr (.inr (.inr (fun _ => none)))))) := by
    rw [← hP.1, Array.getElem?_push_size, vp_cell_q, ← arrV_new]
    rfl
  rw [hP.1]
  exact kk _ (pS_push hP z2 o2 e1) (bS_push hS z2 o2)
theorem k_put (C : Cc g p s m args meth c cc nL own) {ci N index : Nat} {Cn : String} {T : u_T} {ty : Nat → FieldType} (F : ClF ci Cn T N ty) (hP : pS g b n cw H) (hS : va_S (bA b) s.heap H locs) (hk : k < n) {fs : List Value} (he : cw k = .inr (ci, fs)) (f : Nat) (hf : f < N) (hl : f < fs.length) {v : Value} (hfin : (T f).2.2.2 = false ∨ (T f).1 = own) (hn : narrow (ty f) v = v) (hfit : fits (ty f) v = true) (hw : Cond.fieldLink own index (T f).1 (T f).2.1 (T f).2.2.1 ∈ wsL_law) (hdg : decode cc pc = .ok (.putfield index, 3))
    (kk : ∀ (H1 : Heap) (locs1 : List Loc), pS g b n (va_up cw k (.inr (ci, fs.set f v))) H1 → va_S (bA b) s.heap H1 locs1 → W p l e R s m args below meth c H1 locs1 cells slots Q (F0 m (pc + 3) ls rest)) : W p l e R s m args below meth c H locs cells slots Q (F0 m pc ls (v :: .ref (b + k) :: rest)) := by
  obtain ⟨hx, hb, hml, hown, hts, hr, hlk, hK, hNc, hin⟩ := C
  have ha : (plS b n cw)[k]? = some (b + k, .inr (ci, fs)) := by rw [plS_get hk, he]
  have fin : ∀ (H1 : Heap) (locs1 : List Loc), va_P g.1 vwCl ((plS b n cw).set k (b + k, .inr (ci, fs.set f v))) H1 → va_S (bA b) s.heap H1 locs1 → H1.size = H.size → pS g b n (va_up cw k (.inr (ci, fs.set f v))) H1 := fun H1 locs1 q1 q2 q3 => by
    rw [plS_set hk] at q1
    exact ⟨q3.trans hP.1, q1⟩
  obtain ⟨r, h1, cell, q1, q2, q3, q4⟩ := hP.2 k _ ha
  have hr' : r = (Cn, T, N) := Option.some.inj (h1.symm.trans F.1)
  subst hr'
  obtain ⟨hSl, hfc, kC, hkC, hkind⟩ := hK.1 ci _ F.1
  obtain ⟨cf, kf, fi, fd, hi, hsl⟩ := hSl f hf
  have hap := va_apart (own := own) hts F.2.1 ty F.2.2.1 F.2.2.2 hK F.1
  have hst := (u_facts hfc hkC (u_lays hts F.2.1 hf) hi).1
  have fini : ∀ H' : Heap, H'[b + k]? = some (cell.setSlot fd.slot v) → H'.size = H.size → (∀ q, q ≠ b + k → H'[q]? = H[q]?) → W p l e R s m args below meth c H' (locs ++ [⟨b + k, fd.slot⟩]) cells slots Q (F0 m (pc + 3) ls rest) := fun H' e1 e2 e3 => by
    rw [hsl] at e1 ⊢
    have w1 := hP.2.set (e := (.inr (ci, fs.set f v) : va_E)) (H1 := H') (plS_D b n cw) ha ⟨_, F.1, t_OB.to (V := updV (vp_V fs) f v) ⟨_, e1, q2, q3, t_set q4 hap hf v⟩ (fun j _ => vp_updV_set hl v j)⟩ e3
    have w2 := hS.put (k := g.1.2 ci f) e2 e3 ((plS_D b n cw).2 k _ ha)
    exact kk H' _ (fin H' _ w1 w2 e2) w2
  have hlay := hts _ (F.2.1 _ (u_in_lay hf))
  unfold u_lay at hlay
  by_cases hff : (T f).2.2.2 = true
  · rw [if_pos hff] at hlay
    have hdecl : (T f).1 = own := hfin.resolve_left (by rw [hff]; decide)
    have hcf : m.cls = cf := by
      obtain ⟨_, _, c', _, _, _, -, -, hf', -, -, -, hown2, -⟩ := Cond.laysFinal_spec hlay
      have e1 : c' = cf := by have := hi.symm.trans hf'; simp at this; exact this.1.symm
      rw [hdecl] at hown2
      rw [← e1]; exact Option.some.inj (hown.symm.trans hown2)
    have h6 := u_fits hfc hkC hkind (Or.inr hlay) hi (F.2.2.1 f hf) hn hfit
    exact W.putFinK hx hb hown (hts _ hw) hi hst hcf hin (by rw [q2]; exact h6) q1 q3 (by rw [hsl]; exact k2_hasslot (q4 f hf)) rfl rfl hdg fini
  · rw [if_neg hff] at hlay
    have h6 := u_store hfc hkC hkind hlay hi (F.2.2.1 f hf) hn hfit
    exact W.putK hx hb (f := fd) ⟨hown, hts _ hw, ⟨_, _, _, hi⟩, hst⟩ (by rw [q2]; exact h6) q1 q3 (by rw [hsl]; exact k2_hasslot (q4 f hf)) rfl rfl hdg fini
theorem k_get (C : Cc g p s m args meth c cc nL own) {ci N index : Nat} {Cn : String} {T : u_T} {ty : Nat → FieldType} (F : ClF ci Cn T N ty) (hP : pS g b n cw H) (hk : k < n) {fs : List Value} (he : cw k = .inr (ci, fs)) (f : Nat) (hf : f < N) {v : Value} (hv : fs[f]? = some v) (hw : Cond.fieldLink own index (T f).1 (T f).2.1 (T f).2.2.1 ∈ wsL_law) (hdg : decode cc pc = .ok (.getfield index, 3))
    (kk : W p l e R s m args below meth c H locs cells slots Q (F0 m (pc + 3) ls (v :: rest))) : W p l e R s m args below meth c H locs cells slots Q (F0 m pc ls (.ref (b + k) :: rest)) := by
  obtain ⟨hx, hb, hml, hown, hts, hr, hlk, hK, hNc, hin⟩ := C
  exact va_get hx hb hts F.2.1 hown hK hP.2 k (by rw [plS_get hk, he]) F.1 f hf (hts _ hw) (fun _ h => h) hv hdg kk
theorem k_iast (C : Cc g p s m args meth c cc nL own) (hP : pS g b n cw H) (hS : va_S (bA b) s.heap H locs) (hk : k < n) {N : Nat} {f : Nat → Int32} (he : cw k = .inl (g.2.1 0, N, .inl f)) {i x : Int32} (hin : vp_in i N) (hdg : decode cc pc = .ok (.iastore, 1))
    (kk : ∀ (H1 : Heap) (locs1 : List Loc), pS g b n (va_up cw k (.inl (g.2.1 0, N, .inl (upd f i.toNatClampNeg x)))) H1 → va_S (bA b) s.heap H1 locs1 → W p l e R s m args below meth c H1 locs1 cells slots Q (F0 m (pc + 1) ls rest)) : W p l e R s m args below meth c H locs cells slots Q (F0 m pc ls (.int x :: .int i :: .ref (b + k) :: rest)) := by
  obtain ⟨hx, hb, hml, hown, hts, hr, hlk, hK, hNc, hin2⟩ := C
  have ha : (plS b n cw)[k]? = some (b + k, .inl (g.2.1 0, N, .inl f)) := by rw [plS_get hk, he]
  refine W.iast hx hb (hP.2 k _ ha) ((hK.2 0 _ rfl).1 N (fun j => .int (f j))) (fun q => by cases q) (by show ¬ (i < 0 ∨ (arrV _ _ _).slots.size ≤ _); rw [arrV_size]; exact hin) rfl rfl hdg fun H1 e1 z oq => ?_
  have w2 := hS.put (k := i.toNatClampNeg) z oq ((plS_D b n cw).2 k _ ha)
  refine kk H1 _ ⟨z.trans hP.1, ?_⟩ w2
  rw [← plS_set hk]
  refine hP.2.set (plS_D b n cw) ha ?_ oq
  show H1[b + k]? = some (vp_cell _ _)
  rw [e1, vp_cell_i, vp_cell_i, arrV_store]
  congr 2
  funext q
  by_cases hq : q = i.toNatClampNeg
  · subst hq
    simp [updV, upd]
  · simp [updV, upd, hq]
end GRW
