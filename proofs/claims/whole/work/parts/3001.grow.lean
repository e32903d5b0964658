section GRX
variable {g : Gw} {p : Program} {l : Launch} {e : Env} {R : Room} {s : State} {m : MethodId} {args : Array Value} {below : List Frame} {meth : Method} {c : Code} {H : Heap} {locs : List Loc} {cells slots : Nat} {Q : State → Prop}
variable {cc : ByteArray} {nL : Nat} {own : String} {pc : Nat} {ls : Array Slot} {rest : List Value} {b n k : Nat} {cw : Nat → va_E}
theorem k_aast (C : Cc g p s m args meth c cc nL own) (hP : pS g b n cw H) (hS : va_S (bA b) s.heap H locs) (hk : k < n) {N : Nat} {f : Nat → Option Nat} (he : cw k = .inl (g.2.1 2, N, .inr (.inr (.inr (.inr f))))) {j : Nat} (hj : j < n) {vs : List Value} (hv : cw j = .inr (8, vs)) {i : Int32} (hin : vp_in i N) (hdg : decode cc pc = .ok (.aastore, 1))
    (kk : ∀ (H1 : Heap) (locs1 : List Loc), pS g b n (va_up cw k (.inl (g.2.1 2, N, .inr (.inr (.inr (.inr (va_up f i.toNatClampNeg (some (b + j))))))))) H1 → va_S (bA b) s.heap H1 locs1 → W p l e R s m args below meth c H1 locs1 cells slots Q (F0 m (pc + 1) ls rest)) : W p l e R s m args below meth c H locs cells slots Q (F0 m pc ls (.ref (b + j) :: .int i :: .ref (b + k) :: rest)) := by
  obtain ⟨hx, hb, hml, hown, hts, hr, hlk, hK, hNc, hin2⟩ := C
  have ha : (plS b n cw)[k]? = some (b + k, .inl (g.2.1 2, N, .inr (.inr (.inr (.inr f))))) := by rw [plS_get hk, he]
  have hvv : (plS b n cw)[j]? = some (b + j, .inr (8, vs)) := by rw [plS_get hj, hv]
  have hlt : i.toNatClampNeg < N := Nat.not_le.mp fun q => hin (Or.inr q)
  have h0 : ¬ i < 0 := fun q => hin (Or.inl q)
  obtain ⟨r', hr', cellV, g1, g2, g3, -⟩ := hP.2 j _ hvv
  have hcls := (hK.1 8 (RX8, TX8, 12) rfl).2
  obtain ⟨kA, comp, k1, k2, k3, -⟩ := (hK.2 2 (g.2.1 2, .object "LavaLodger$Village") rfl).2
  have hcomp : comp = g.1.1 8 := Option.some.inj (k3.symm.trans hcls.1)
  subst hcomp
  obtain ⟨kC, hkC, -⟩ := hcls.2
  refine W.aast hx hb (hP.2 k _ ha) (fun q h => by cases h) (fun h => by cases h) k1 k2 rfl hkC ⟨h0, by show _ < (arrV _ _ _).slots.size; rw [arrV_size]; exact hlt⟩ g1 (fun q h => by rw [g3] at h; cases h) (by rw [g2]; exact hkC) (by rw [g2]; exact va_assign hcls) rfl rfl hdg fun H1 e1 z oq => ?_
  have w2 := hS.put (k := i.toNatClampNeg) z oq ((plS_D b n cw).2 k _ ha)
  refine kk H1 _ ⟨z.trans hP.1, ?_⟩ w2
  rw [← plS_set hk]
  refine hP.2.set (plS_D b n cw) ha ?_ oq
  show H1[b + k]? = some (vp_cell _ _)
  rw [e1, vp_cell_q, vp_cell_q, arrV_store]
  congr 2
  funext q
  by_cases hq : q = i.toNatClampNeg
  · subst hq
    simp [updV, va_up, va_rf]
  · simp [updV, va_up, hq]
/-- the rooms that a constructor's callee needs, its words; a call of a constructor -/
def CaI (y : MethodName) (cy : ByteArray) (ny n : Nat) : Prop := Cond.instanceMethod y ∈ wsL_law ∧ Cond.initialized y.cls ∈ wsL_law ∧ Cond.code y cy ny none ∈ wsL_law ∧ y.name = "<init>" ∧ y.cls ≠ "java/lang/invoke/MethodHandle" ∧ y.cls ≠ "java/lang/invoke/VarHandle" ∧ (parseMethodDescriptor y.desc).map (fun d => d.parameters.length) = some n
abbrev rmC (h mc ms : Nat) : Room := { frames := h, cells := mc, slots := ms, locals := 40 * h }
abbrev PcC (g : Gw) (Pre : Heap → Prop) (av : List Value) : Array Value → State → Prop := va_Pc av (fun U => Pre U.heap ∧ KS g U ∧ NC U)
abbrev QvC (b : Nat) (Post : Heap → Prop) : Array Value → State → Outcome → State → Prop := va_Qv (fun (_ : Unit) => True) (fun _ t => Post t.heap) (bA b)
def MtC (l : Launch) (y : MethodName) (cy : ByteArray) (ny h mc ms : Nat) (g : Gw) (b : Nat) (av : List Value) (Pre Post : Heap → Prop) : Prop := Met l y (.code y cy ny none :: wsL_law) (rmC h mc ms) (PcC g Pre av) (QvC b Post) mc ms (bA b)
theorem mtc_of {y : MethodName} {cy : ByteArray} {ny h mc ms : Nat} {av : List Value} {Pre Post : Heap → Prop} (hy : plainName y.cls = true) (hy1 : y.name = "<init>") (hlen : (lg_sl av).length ≤ ny)
    (body : ∀ (p : Program) (e : Env) (s : State) (m : MethodId) (below : List Frame) (meth : Method) (c : Code) (ls : Array Slot) (H : Heap) (locs : List Loc), Cc g p s m av.toArray meth c cy ny y.cls → Pre H → va_S (bA b) s.heap H locs → lv_has ls ny (lv_args 0 av) → W p l e (rmC h mc ms) s m av.toArray below meth c H locs 0 0 (MQ below (QvC b Post) av.toArray s mc ms (bA b)) (F0 m 0 ls [])) : MtC l y cy ny h mc ms g b av Pre Post := by
  refine Met.ofW (cc := cy) (maxL := ny) (ret := none) hy rfl ?_
  intro p e s m args below meth c s₁ B hml hv
  obtain ⟨rfl, hP, hK, hN⟩ := hv
  have hts := atoms_spec (ws := .code y cy ny none :: wsL_law) B.pre
  have hown : s.vm.findClass y.cls = some m.cls := findClass_of_methodNamed B.named
  have hin : meth.name = "<init>" := (name_of_methodNamed B.named B.method).1.trans hy1
  rw [lg_entry_eq]
  exact body p e s m below meth c _ _ _ ⟨B.exec, B.bytes, hml, hown, fun q hq => hts q (List.mem_cons_of_mem _ hq), B.returns, B.notSynchronized, hK, hN, hin⟩ hP va_S.rf (lv_entry av hlen)
theorem nc_moved {s U : State} (h : NC s) (hW : s.WarmedH U.vm) : NC U := ⟨fun i q hq => va_Nw.warmM hW (h.1 i q hq), va_AO.moved hW.alike h.2.1, over_moved (a := #[]) (a' := #[]) hW.alike h.2.2⟩
theorem pcc_blind (g : Gw) (Pre : Heap → Prop) (av : List Value) : FrameBlind (PcC g Pre av) := by
  intro a U j mk q
  obtain ⟨q0, qP, qK, qN⟩ := q
  exact ⟨q0, qP, va_K.moved (u := U) (U := U.calling j mk a) (Vm.Alike.refl U.vm) qK, ⟨fun i z hz => va_tabs (A := #[]) rfl rfl (qN.1 i z hz), va_AO.moved (u := U) (U := U.calling j mk a) (Vm.Alike.refl U.vm) qN.2.1, qN.2.2⟩⟩
theorem k_ret {Post : Heap → Prop} (C : Cc g p s m args meth c cc nL own) (hP : Post H) (hS : va_S (bA b) s.heap H locs) (hdg : decode cc pc = .ok (.return_, 1)) : W p l e R s m args below meth c H locs cells slots (MQ below (QvC b Post) args s cells slots (bA b)) (F0 m pc ls []) := by
  obtain ⟨hx, hb, hml, hown, hts, hr, hlk, hK, hN, hin⟩ := C
  exact W.vret hx hb hr (fun t ht hW => ⟨⟨(), rfl, trivial, by show Post t.heap; rw [ht]; exact hP⟩, hS.F ht⟩) hS.2.2 hdg hlk
variable {y : MethodName} {cy : ByteArray} {ny hh index mc ms na : Nat} {As : List Value} {Pre Post : Heap → Prop} {a : Nat}
theorem k_end {aa : Array Value} {st0 : List Value} (hr : va_Run p l e R s m args below meth c H locs cells slots mc ms (F0 m pc ls st0) rest (QvC b Post aa) (bA b)) (hS : va_S (bA b) s.heap H locs)
    (kk : ∀ (H1 : Heap) (locs1 : List Loc), Post H1 → va_S (bA b) s.heap H1 locs1 → W p l e R s m args below meth c H1 locs1 (cells + mc) (slots + ms) Q (F0 m (pc + 3) ls rest)) : W p l e R s m args below meth c H locs cells slots Q (F0 m pc ls st0) := by
  refine va_callv hr hS (fun _ _ h => h) (fun _ h => h) (fun u t H1 locs1 ht hvm hp hB hz hk hS1 => ?_)
  exact kk H1 locs1 (by rw [← ht]; exact hB) hS1
theorem k_callI (C : Cc g p s m args meth c cc nL own) (V : CaI y cy ny na) (hw : Cond.methodLink own index y ∈ wsL_law) (hM : MtC l y cy ny hh mc ms g b (.ref a :: As) Pre Post) (hP : Pre H) (hS : va_S (bA b) s.heap H locs) (hn : As.length = na) (hls : ls.size = nL) (hrest : (rest.map fun v => v.category).sum ≤ 8) (hR : hh + 1 ≤ R.frames ∧ 8 + (ny + 11) + 40 * hh ≤ R.locals) (hc : cells + mc ≤ R.cells ∧ slots + ms ≤ R.slots) (hdg : decode cc pc = .ok (.invokespecial index, 3))
    (kk : ∀ (H1 : Heap) (locs1 : List Loc), Post H1 → va_S (bA b) s.heap H1 locs1 → W p l e R s m args below meth c H1 locs1 (cells + mc) (slots + ms) Q (F0 m (pc + 3) ls rest)) : W p l e R s m args below meth c H locs cells slots Q (F0 m pc ls (As.reverse ++ .ref a :: rest)) := by
  obtain ⟨h1, h2, h3, h4, hd⟩ := V
  have hG : GoodIn wsL_law (.code y cy ny none :: wsL_law) := tb_goodIn (fun q hq => (List.mem_cons.mp hq).elim (fun e => e ▸ h3) id)
  refine k_end (va_runI (S := ⟨C.1, C.2.1, C.2.2.1, C.2.2.2.1, C.2.2.2.2.1⟩) hM (cwI na C.2.2.2.2.1 hG rfl rfl rfl (C.2.2.2.2.1 _ h2) (C.2.2.2.2.1 _ hw) (C.2.2.2.2.1 _ h1) h4 hd hR) ⟨pcc_blind _ _ _, fun U hU hW => ⟨rfl, by rw [hU]; exact hP, va_K.moved hW.alike C.2.2.2.2.2.2.2.1, nc_moved C.2.2.2.2.2.2.2.2.1 hW⟩⟩ rfl hn hls rfl (lv_room hrest) hdg hc) hS kk
theorem k_callN (C : Cc g p s m args meth c cc nL own) (V : CaI y cy ny na) (i : Nat) (hi : nlC[i]? = some (own, index, y)) (hM : MtC l y cy ny hh mc ms g b (.ref a :: As) Pre Post) (hP : Pre H) (hS : va_S (bA b) s.heap H locs) (hn : As.length = na) (hls : ls.size = nL) (hrest : (rest.map fun v => v.category).sum ≤ 8) (hR : hh + 1 ≤ R.frames ∧ 8 + (ny + 11) + 40 * hh ≤ R.locals) (hc : cells + mc ≤ R.cells ∧ slots + ms ≤ R.slots) (hdg : decode cc pc = .ok (.invokespecial index, 3))
    (kk : ∀ (H1 : Heap) (locs1 : List Loc), Post H1 → va_S (bA b) s.heap H1 locs1 → W p l e R s m args below meth c H1 locs1 (cells + mc) (slots + ms) Q (F0 m (pc + 3) ls rest)) : W p l e R s m args below meth c H locs cells slots Q (F0 m pc ls (As.reverse ++ .ref a :: rest)) := by
  obtain ⟨h1, h2, h3, h4, hd⟩ := V
  have hG : GoodIn wsL_law (.code y cy ny none :: wsL_law) := tb_goodIn (fun q hq => (List.mem_cons.mp hq).elim (fun e => e ▸ h3) id)
  refine k_end (va_runIN (S := ⟨C.1, C.2.1, C.2.2.1, C.2.2.2.1, C.2.2.2.2.1⟩) hM ⟨va_cnB na C.2.2.2.2.1 hG rfl rfl rfl (C.2.2.2.2.2.2.2.2.1.1 i _ hi) (C.2.2.2.2.1 _ h2) hd hR, h4, C.2.2.2.2.1 _ h1⟩ ⟨pcc_blind _ _ _, fun U hU hW => ⟨rfl, by rw [hU]; exact hP, va_K.moved hW.alike C.2.2.2.2.2.2.2.1, nc_moved C.2.2.2.2.2.2.2.2.1 hW⟩⟩ rfl hn hls rfl (lv_room hrest) hdg hc) hS kk
end GRX
/-! a constructor's normal form: h is 'this', L the cells that it has made behind the n that were there -/
def nfS (cw : Nat → va_E) (n h : Nat) (o : va_E) (L : List va_E) : Nat → va_E := fun k => if k = h then o else if k < n then cw k else L.getD (k - n) o
theorem nf_self {cw : Nat → va_E} {n h : Nat} {o : va_E} {L : List va_E} : nfS cw n h o L h = o := if_pos rfl
theorem nf_0 {cw : Nat → va_E} {n h : Nat} {o : va_E} (ho : cw h = o) : ∀ k, k < n → cw k = nfS cw n h o [] k := fun k hk => by
  simp only [nfS]
  by_cases hkh : k = h
  · subst hkh
    rw [if_pos rfl, ho]
  · rw [if_neg hkh, if_pos hk]
theorem nf_put {cw : Nat → va_E} {n h N : Nat} {o o' : va_E} {L : List va_E} (hL : L.length = N) : ∀ k, k < n + N → va_up (nfS cw n h o L) h o' k = nfS cw n h o' L k := fun k hk => by
  subst hL
  simp only [nfS, va_up]
  by_cases hkh : k = h
  · rw [if_pos hkh, if_pos hkh]
  · rw [if_neg hkh, if_neg hkh, if_neg hkh]
    by_cases hkn : k < n
    · rw [if_pos hkn, if_pos hkn]
    · rw [if_neg hkn, if_neg hkn, List.getD_eq_getElem?_getD, List.getD_eq_getElem?_getD, List.getElem?_eq_getElem (by omega)]
      rfl
theorem nf_push {cw : Nat → va_E} {n h N : Nat} {o E : va_E} {L : List va_E} (hh : h < n) (hL : L.length = N) : ∀ k, k < n + (N + 1) → va_up (nfS cw n h o L) (n + N) E k = nfS cw n h o (L ++ [E]) k := fun k hk => by
  subst hL
  simp only [nfS, va_up]
  by_cases hkl : k = n + L.length
  · subst hkl
    rw [if_pos rfl, if_neg (by omega), if_neg (by omega), List.getD_eq_getElem?_getD, show n + L.length - n = L.length by omega, List.getElem?_append_right (Nat.le_refl _), Nat.sub_self]
    rfl
  · rw [if_neg hkl]
    by_cases hkh : k = h
    · rw [if_pos hkh, if_pos hkh]
    · rw [if_neg hkh, if_neg hkh]
      by_cases hkn : k < n
      · rw [if_pos hkn, if_pos hkn]
      · rw [if_neg hkn, if_neg hkn, List.getD_eq_getElem?_getD, List.getD_eq_getElem?_getD, List.getElem?_append_left (by omega)]
theorem nf_nest {cw : Nat → va_E} {n h N N' : Nat} {o d o' : va_E} {L L' : List va_E} (hh : h < n) (hL : L.length = N) (hL' : L'.length = N') : ∀ k, k < n + (N + 1 + N') → nfS (va_up (nfS cw n h o L) (n + N) d) (n + N + 1) (n + N) o' L' k = nfS cw n h o (L ++ o' :: L') k := fun k hk => by
  subst hL
  subst hL'
  simp only [nfS, va_up]
  by_cases hkl : k = n + L.length
  · subst hkl
    rw [if_pos rfl, if_neg (by omega), if_neg (by omega), List.getD_eq_getElem?_getD, show n + L.length - n = L.length by omega, List.getElem?_append_right (Nat.le_refl _), Nat.sub_self]
    rfl
  · rw [if_neg hkl]
    by_cases hlt : k < n + L.length + 1
    · rw [if_pos hlt, if_neg hkl]
      by_cases hkh : k = h
      · rw [if_pos hkh, if_pos hkh]
      · rw [if_neg hkh, if_neg hkh]
        by_cases hkn : k < n
        · rw [if_pos hkn, if_pos hkn]
        · rw [if_neg hkn, if_neg hkn, List.getD_eq_getElem?_getD, List.getD_eq_getElem?_getD, List.getElem?_append_left (by omega)]
    · rw [if_neg hlt, if_neg (by omega), if_neg (by omega), List.getD_eq_getElem?_getD, List.getD_eq_getElem?_getD, List.getElem?_append_right (by omega), show k - n - L.length = (k - (n + L.length + 1)) + 1 by omega, List.getElem?_cons_succ, List.getElem?_eq_getElem (by omega)]
      rfl
theorem nf_set {cw : Nat → va_E} {n h i N : Nat} {o E : va_E} {L : List va_E} (hh : h < n) (hL : L.length = N) (hi : i < N) : ∀ k, k < n + N → va_up (nfS cw n h o L) (n + i) E k = nfS cw n h o (L.set i E) k := fun k hk => by
  subst hL
  simp only [nfS, va_up]
  by_cases hkl : k = n + i
  · subst hkl
    rw [if_pos rfl, if_neg (by omega), if_neg (by omega), List.getD_eq_getElem?_getD, show n + i - n = i by omega, List.getElem?_set_self hi]
    rfl
  · rw [if_neg hkl]
    by_cases hkh : k = h
    · rw [if_pos hkh, if_pos hkh]
    · rw [if_neg hkh, if_neg hkh]
      by_cases hkn : k < n
      · rw [if_pos hkn, if_pos hkn]
      · rw [if_neg hkn, if_neg hkn, List.getD_eq_getElem?_getD, List.getD_eq_getElem?_getD, List.getElem?_set_ne (by omega)]
theorem nf_at {cw : Nat → va_E} {n h i : Nat} {o E : va_E} {L : List va_E} (hh : h < n) (hi : L[i]? = some E) : nfS cw n h o L (n + i) = E := by
  simp only [nfS]
  rw [if_neg (by omega), if_neg (by omega), List.getD_eq_getElem?_getD, show n + i - n = i by omega, hi]
  rfl
