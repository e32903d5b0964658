/-! contracts, calls, returns over the world -/
abbrev rmS (h : Nat) : Room := { frames := h, cells := 0, slots := 0, locals := 40 * h }
abbrev PcS (w : Wk) (g : Gw) (σ : Sto) (av : List Value) : Array Value → State → Prop := va_Pc av (fun U => wS w g σ U.heap ∧ KS g U ∧ ZS w g U)
abbrev QiS (w : Wk) (g : Gw) (σ : Sto) (r : Int32) : Array Value → State → Outcome → State → Prop := va_Qi (fun (r' : Int32) (_ : Unit) => r' = r) (fun _ t => wS w g σ t.heap) (AS w g)
abbrev QlS (w : Wk) (g : Gw) (σ : Sto) (r : Int64) : Array Value → State → Outcome → State → Prop := va_Ql (fun (r' : Int64) (_ : Unit) => r' = r) (fun _ t => wS w g σ t.heap) (AS w g)
abbrev QvS (w : Wk) (g : Gw) (σ : Sto) : Array Value → State → Outcome → State → Prop := va_Qv (fun (_ : Unit) => True) (fun _ t => wS w g σ t.heap) (AS w g)
def MtG (l : Launch) (y : MethodName) (cy : ByteArray) (ny : Nat) (ry : Option FieldType) (h : Nat) (w : Wk) (g : Gw) (av : List Value) (σ : Sto) (Qc : Array Value → State → Outcome → State → Prop) : Prop := Met l y (.code y cy ny ry :: wsL_law) (rmS h) (PcS w g σ av) Qc 0 0 (AS w g)
theorem mt_of {l : Launch} {y : MethodName} {cy : ByteArray} {ny : Nat} {ry : Option FieldType} {h : Nat} {w : Wk} {g : Gw} {av : List Value} {σ : Sto} {Qc : Array Value → State → Outcome → State → Prop} (hy : plainName y.cls = true) (hlen : (lg_sl av).length ≤ ny)
    (body : ∀ (p : Program) (e : Env) (s : State) (m : MethodId) (below : List Frame) (meth : Method) (c : Code) (ls : Array Slot) (H : Heap) (locs : List Loc), Cx w g p s m av.toArray meth c cy ny y.cls ry → wS w g σ H → va_S (AS w g) s.heap H locs → lv_has ls ny (lv_args 0 av) → W p l e (rmS h) s m av.toArray below meth c H locs 0 0 (MQ below Qc av.toArray s 0 0 (AS w g)) (F0 m 0 ls [])) : MtG l y cy ny ry h w g av σ Qc := by
  refine Met.ofW (cc := cy) (maxL := ny) (ret := ry) hy rfl ?_
  intro p e s m args below meth c s₁ B hml hv
  obtain ⟨rfl, hP, hK, hZ⟩ := hv
  have hts := atoms_spec (ws := .code y cy ny ry :: wsL_law) B.pre
  have hown : s.vm.findClass y.cls = some m.cls := findClass_of_methodNamed B.named
  rw [lg_entry_eq]
  exact body p e s m below meth c _ _ _ ⟨B.exec, B.bytes, hml, hown, fun q hq => hts q (List.mem_cons_of_mem _ hq), B.returns, B.notSynchronized, hK, hZ⟩ hP va_S.rf (lv_entry av hlen)
theorem zs_moved {w : Wk} {g : Gw} {s U : State} (h : ZS w g s) (hN : NS U) (hvm : s.vm.Alike U.vm) (hh : ∀ q : Nat, q < s.heap.size → ¬ AS w g q → U.heap[q]? = s.heap[q]?) : ZS w g U := ⟨hN, fun i q hq => ⟨((h.2 i q hq).1.moved hvm).kept hh, ((h.2 i q hq).2.moved hvm).kept hh⟩⟩
theorem pc_blind (w : Wk) (g : Gw) (σ : Sto) (av : List Value) : FrameBlind (PcS w g σ av) := by
  intro a U j mk q
  obtain ⟨q0, qP, qK, qZ⟩ := q
  exact ⟨q0, qP, va_K.moved (u := U) (U := U.calling j mk a) (Vm.Alike.refl U.vm) qK, zs_moved (s := U) (U := U.calling j mk a) qZ (va_tabs (A := #[]) rfl rfl qZ.1) (Vm.Alike.refl U.vm) (fun _ _ _ => rfl)⟩
def CaV (y : MethodName) (cy : ByteArray) (ny : Nat) (ry : Option FieldType) (n : Nat) : Prop := Cond.instanceMethod y ∈ wsL_law ∧ Cond.selects y.cls y y ∈ wsL_law ∧ Cond.initialized y.cls ∈ wsL_law ∧ Cond.code y cy ny ry ∈ wsL_law ∧ y.cls ≠ "java/lang/invoke/MethodHandle" ∧ y.cls ≠ "java/lang/invoke/VarHandle" ∧ (parseMethodDescriptor y.desc).map (fun d => d.parameters.length) = some n
def CaS (y : MethodName) (cy : ByteArray) (ny : Nat) (ry : Option FieldType) (n : Nat) : Prop := Cond.static y ∈ wsL_law ∧ Cond.initialized y.cls ∈ wsL_law ∧ Cond.code y cy ny ry ∈ wsL_law ∧ y.cls ≠ "java/lang/invoke/MethodHandle" ∧ y.cls ≠ "java/lang/invoke/VarHandle" ∧ (parseMethodDescriptor y.desc).map (fun d => d.parameters.length) = some n
section CLS
variable {w : Wk} {g : Gw} {p : Program} {l : Launch} {e : Env} {R : Room} {s : State} {m : MethodId} {args : Array Value} {below : List Frame} {meth : Method} {c : Code} {H : Heap} {locs : List Loc} {cells slots : Nat} {Q : State → Prop}
variable {cc : ByteArray} {nL : Nat} {own : String} {ret : Option FieldType} {pc : Nat} {ls : Array Slot} {rest : List Value} {σ : Sto}
variable {y : MethodName} {cy : ByteArray} {ny n hh index : Nat} {ry : Option FieldType} {As : List Value} {Qc : Array Value → State → Outcome → State → Prop}
theorem cw_v (C : Cx w g p s m args meth c cc nL own ret) (V : CaV y cy ny ry n) (hw : Cond.methodLink own index y ∈ wsL_law) (hR : hh + 1 ≤ R.frames ∧ 8 + (ny + 11) + 40 * hh ≤ R.locals) : CallW R s args own y.cls index y cy ny ry (.code y cy ny ry :: wsL_law) (rmS hh) 0 0 n := by
  obtain ⟨h1, h2, h3, h4, hd⟩ := V
  refine cwV n C.2.2.2.2.1 (tb_goodIn ?_) rfl rfl rfl ⟨rfl, hd⟩ hR
  intro q hq
  unfold wsV at hq
  simp only [List.cons_append, List.nil_append, List.mem_cons] at hq
  rcases hq with rfl | rfl | rfl | rfl | rfl | hq
  · exact hw
  · exact h1
  · exact h2
  · exact h3
  · exact h4
  · exact hq
theorem cw_s (C : Cx w g p s m args meth c cc nL own ret) (V : CaS y cy ny ry n) (hw : Cond.methodLink own index y ∈ wsL_law) (hR : hh + 1 ≤ R.frames ∧ 8 + (ny + 11) + 40 * hh ≤ R.locals) : CallB R s args own index y cy ny ry (.code y cy ny ry :: wsL_law) (rmS hh) 0 0 n ∧ (Cond.static y).before args s = true := by
  obtain ⟨h1, h3, h4, hd⟩ := V
  refine va_cwS n C.2.2.2.2.1 (tb_goodIn ?_) rfl rfl rfl hd hR
  intro q hq
  unfold va_wsS at hq
  simp only [List.cons_append, List.nil_append, List.mem_cons] at hq
  rcases hq with rfl | rfl | rfl | rfl | hq
  · exact hw
  · exact h1
  · exact h3
  · exact h4
  · exact hq
theorem pre_v (C : Cx w g p s m args meth c cc nL own ret) (hP : wS w g σ H) (hS : va_S (AS w g) s.heap H locs) {b ci N : Nat} {Cn : String} {T : u_T} {ty : Nat → FieldType} (F : ClF ci Cn T N ty) {fl : List (Option Nat)} (hs : w.1 b = .inr (.inl (ci, fl))) (hb : b < w.2.1) : PreV s H Cn (adG g b) (PcS w g σ (.ref (adG g b) :: As)) As := by
  refine ⟨pc_blind _ _ _ _, va_recv C.2.2.2.2.2.2.2.1 hP.1 (ci := ci) (q0 := b) F.1 (fs := fl.mapIdx (fvS g.2.2.1 (σ b))) (by rw [wlS_get hb, hs]; rfl), fun U hU hW => ⟨rfl, by rw [hU]; exact hP, va_K.moved hW.alike C.2.2.2.2.2.2.2.1, zs_moved C.2.2.2.2.2.2.2.2 (va_Nw.warmF hW C.2.2.2.2.2.2.2.2.1) hW.alike (fun q h1 h2 => by rw [hU]; exact hS.2.1 q h1 h2)⟩⟩
theorem pre_s (C : Cx w g p s m args meth c cc nL own ret) (hP : wS w g σ H) (hS : va_S (AS w g) s.heap H locs) : PreS s H (PcS w g σ As) As :=
  ⟨pc_blind _ _ _ _, fun U hU hW => ⟨rfl, by rw [hU]; exact hP, va_K.moved hW.alike C.2.2.2.2.2.2.2.1, zs_moved C.2.2.2.2.2.2.2.2 (va_Nw.warmF hW C.2.2.2.2.2.2.2.2.1) hW.alike (fun q h1 h2 => by rw [hU]; exact hS.2.1 q h1 h2)⟩⟩
theorem run_v (C : Cx w g p s m args meth c cc nL own ret) (V : CaV y cy ny ry n) {b ci N : Nat} (hM : MtG l y cy ny ry hh w g (.ref (adG g b) :: As) σ Qc) {T : u_T} {ty : Nat → FieldType} (F : ClF ci y.cls T N ty) {fl : List (Option Nat)} (hs : w.1 b = .inr (.inl (ci, fl))) (hb : b < w.2.1) (hw : Cond.methodLink own index y ∈ wsL_law) (hR : hh + 1 ≤ R.frames ∧ 8 + (ny + 11) + 40 * hh ≤ R.locals) (hn : As.length = n) (hls : ls.size = nL) (hrest : (rest.map fun v => v.category).sum ≤ 8) (hc : cells ≤ R.cells ∧ slots ≤ R.slots) (hP : wS w g σ H) (hS : va_S (AS w g) s.heap H locs) (hdg : decode cc pc = .ok (.invokevirtual index, 3)) :
    va_Run p l e R s m args below meth c H locs cells slots 0 0 (F0 m pc ls (As.reverse ++ .ref (adG g b) :: rest)) rest (Qc (Value.ref (adG g b) :: As).toArray) (AS w g) :=
  va_runV (S := ⟨C.1, C.2.1, C.2.2.1, C.2.2.2.1, C.2.2.2.2.1⟩) hM (cw_v C V hw hR) (pre_v C hP hS F hs hb) rfl hn hls rfl (lv_room hrest) hdg hc
theorem run_s (C : Cx w g p s m args meth c cc nL own ret) (V : CaS y cy ny ry n) (hM : MtG l y cy ny ry hh w g As σ Qc) (hw : Cond.methodLink own index y ∈ wsL_law) (hR : hh + 1 ≤ R.frames ∧ 8 + (ny + 11) + 40 * hh ≤ R.locals) (hn : As.length = n) (hls : ls.size = nL) (hrest : (rest.map fun v => v.category).sum ≤ 8) (hc : cells ≤ R.cells ∧ slots ≤ R.slots) (hP : wS w g σ H) (hS : va_S (AS w g) s.heap H locs) (hdg : decode cc pc = .ok (.invokestatic index, 3)) :
    va_Run p l e R s m args below meth c H locs cells slots 0 0 (F0 m pc ls (As.reverse ++ rest)) rest (Qc As.toArray) (AS w g) :=
  va_runS (S := ⟨C.1, C.2.1, C.2.2.1, C.2.2.2.1, C.2.2.2.2.1⟩) hM (cw_s C V hw hR) (pre_s C hP hS) rfl hn hls rfl (lv_room hrest) hdg hc
theorem end_i {σ' : Sto} {r : Int32} {a : Array Value} {st0 : List Value} (hr : va_Run p l e R s m args below meth c H locs cells slots 0 0 (F0 m pc ls st0) rest (QiS w g σ' r a) (AS w g)) (hS : va_S (AS w g) s.heap H locs)
    (kk : ∀ (H1 : Heap) (locs1 : List Loc), wS w g σ' H1 → va_S (AS w g) s.heap H1 locs1 → W p l e R s m args below meth c H1 locs1 cells slots Q (F0 m (pc + 3) ls (.int r :: rest))) : W p l e R s m args below meth c H locs cells slots Q (F0 m pc ls st0) := by
  refine va_calli hr hS (fun _ _ h => h) (fun _ h => h) (fun r' u t H1 locs1 ht hvm hp hB hz hk hS1 => ?_)
  subst hp
  exact kk H1 locs1 (by rw [← ht]; exact hB) hS1
theorem end_l {σ' : Sto} {r : Int64} {a : Array Value} {st0 : List Value} (hr : va_Run p l e R s m args below meth c H locs cells slots 0 0 (F0 m pc ls st0) rest (QlS w g σ' r a) (AS w g)) (hS : va_S (AS w g) s.heap H locs)
    (kk : ∀ (H1 : Heap) (locs1 : List Loc), wS w g σ' H1 → va_S (AS w g) s.heap H1 locs1 → W p l e R s m args below meth c H1 locs1 cells slots Q (F0 m (pc + 3) ls (.long r :: rest))) : W p l e R s m args below meth c H locs cells slots Q (F0 m pc ls st0) := by
  refine va_calll hr hS (fun _ _ h => h) (fun _ h => h) (fun r' u t H1 locs1 ht hvm hp hB hz hk hS1 => ?_)
  subst hp
  exact kk H1 locs1 (by rw [← ht]; exact hB) hS1
theorem end_v {σ' : Sto} {a : Array Value} {st0 : List Value} (hr : va_Run p l e R s m args below meth c H locs cells slots 0 0 (F0 m pc ls st0) rest (QvS w g σ' a) (AS w g)) (hS : va_S (AS w g) s.heap H locs)
    (kk : ∀ (H1 : Heap) (locs1 : List Loc), wS w g σ' H1 → va_S (AS w g) s.heap H1 locs1 → W p l e R s m args below meth c H1 locs1 cells slots Q (F0 m (pc + 3) ls rest)) : W p l e R s m args below meth c H locs cells slots Q (F0 m pc ls st0) := by
  refine va_callv hr hS (fun _ _ h => h) (fun _ h => h) (fun u t H1 locs1 ht hvm hp hB hz hk hS1 => ?_)
  exact kk H1 locs1 (by rw [← ht]; exact hB) hS1
theorem r_reti {σ' : Sto} {v r : Int32} (C : Cx w g p s m args meth c cc nL own (some .int)) (hP : wS w g σ H) (hS : va_S (AS w g) s.heap H locs) (h1 : σ = σ') (h2 : v = r) (hdg : decode cc pc = .ok (.ireturn, 1)) : W p l e R s m args below meth c H locs 0 0 (MQ below (QiS w g σ' r) args s 0 0 (AS w g)) (F0 m pc ls [.int v]) := by
  subst h1
  subst h2
  obtain ⟨hx, hb, hml, hown, hts, hr, hlk, hK, hZ⟩ := C
  exact W.iret hx hb hr (fun t ht hW => ⟨⟨v, (), rfl, rfl, by show wS w g σ t.heap; rw [ht]; exact hP⟩, hS.F ht⟩) hS.2.2 hdg hlk
theorem r_retz {σ' : Sto} {v r : Int32} (C : Cx w g p s m args meth c cc nL own (some .boolean)) (hP : wS w g σ H) (hS : va_S (AS w g) s.heap H locs) (h1 : σ = σ') (h2 : v = r) (hn : narrow .boolean (.int v) = .int v) (hdg : decode cc pc = .ok (.ireturn, 1)) : W p l e R s m args below meth c H locs 0 0 (MQ below (QiS w g σ' r) args s 0 0 (AS w g)) (F0 m pc ls [.int v]) := by
  subst h1
  subst h2
  obtain ⟨hx, hb, hml, hown, hts, hr, hlk, hK, hZ⟩ := C
  exact W.zret hx hb hr hn (fun t ht hW => ⟨⟨v, (), rfl, rfl, by show wS w g σ t.heap; rw [ht]; exact hP⟩, hS.F ht⟩) hS.2.2 hdg hlk
theorem r_retl {σ' : Sto} {v r : Int64} (C : Cx w g p s m args meth c cc nL own (some .long)) (hP : wS w g σ H) (hS : va_S (AS w g) s.heap H locs) (h1 : σ = σ') (h2 : v = r) (hdg : decode cc pc = .ok (.lreturn, 1)) : W p l e R s m args below meth c H locs 0 0 (MQ below (QlS w g σ' r) args s 0 0 (AS w g)) (F0 m pc ls [.long v]) := by
  subst h1
  subst h2
  obtain ⟨hx, hb, hml, hown, hts, hr, hlk, hK, hZ⟩ := C
  exact W.lret hx hb hr (fun t ht hW => ⟨⟨v, (), rfl, rfl, by show wS w g σ t.heap; rw [ht]; exact hP⟩, hS.F ht⟩) hS.2.2 hdg hlk
theorem r_retv {σ' : Sto} (C : Cx w g p s m args meth c cc nL own none) (hP : wS w g σ H) (hS : va_S (AS w g) s.heap H locs) (h1 : σ = σ') (hdg : decode cc pc = .ok (.return_, 1)) : W p l e R s m args below meth c H locs 0 0 (MQ below (QvS w g σ') args s 0 0 (AS w g)) (F0 m pc ls []) := by
  subst h1
  obtain ⟨hx, hb, hml, hown, hts, hr, hlk, hK, hZ⟩ := C
  exact W.vret hx hb hr (fun t ht hW => ⟨⟨(), rfl, trivial, by show wS w g σ t.heap; rw [ht]; exact hP⟩, hS.F ht⟩) hS.2.2 hdg hlk
end CLS
theorem rt_ow1 {α : Type} {σ : Sto} {v : α} {z : Sto × α} (h : some (σ, v) = some z) : σ = z.1 := congrArg Prod.fst (Option.some.inj h)
theorem rt_ow2 {α : Type} {σ : Sto} {v : α} {z : Sto × α} (h : some (σ, v) = some z) : v = z.2 := congrArg Prod.snd (Option.some.inj h)
theorem rt_tw1 {α : Type} {σ : Sto} {v : α} {z : Sto × α} (h : (σ, v) = z) : σ = z.1 := congrArg Prod.fst h
theorem rt_tw2 {α : Type} {σ : Sto} {v : α} {z : Sto × α} (h : (σ, v) = z) : v = z.2 := congrArg Prod.snd h
theorem rt_o {α : Type} {v z : α} (h : some v = some z) : v = z := Option.some.inj h
