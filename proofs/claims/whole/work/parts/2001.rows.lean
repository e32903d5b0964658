/-! rows over the world -/
section RWS
variable {w : Wk} {g : Gw} {p : Program} {l : Launch} {e : Env} {R : Room} {s : State} {m : MethodId} {args : Array Value} {below : List Frame} {meth : Method} {c : Code} {H : Heap} {locs : List Loc} {cells slots : Nat} {Q : State → Prop}
variable {cc : ByteArray} {nL : Nat} {own : String} {ret : Option FieldType} {pc : Nat} {ls : Array Slot} {rest : List Value} {σ : Sto} {k : Nat}
theorem r_geti (C : Cx w g p s m args meth c cc nL own ret) {ci N index : Nat} {Cn : String} {T : u_T} {ty : Nat → FieldType} (F : ClF ci Cn T N ty) (hP : wS w g σ H) {fl : List (Option Nat)} (hs : w.1 k = .inr (.inl (ci, fl))) (hk : k < w.2.1) (f : Nat) (hf : f < N) (hl : fl[f]? = some none) (hw : Cond.fieldLink own index (T f).1 (T f).2.1 (T f).2.2.1 ∈ wsL_law) (hdg : decode cc pc = .ok (.getfield index, 3))
    (kk : W p l e R s m args below meth c H locs cells slots Q (F0 m (pc + 3) ls (.int (σ k f) :: rest))) : W p l e R s m args below meth c H locs cells slots Q (F0 m pc ls (.ref (adG g k) :: rest)) := by
  obtain ⟨hx, hb, hml, hown, hts, hr, hlk, hK, hZ⟩ := C
  refine va_get hx hb hts F.2.1 hown hK hP.1 k (fs := fl.mapIdx (fvS g.2.2.1 (σ k))) (by rw [wlS_get hk, hs]; rfl) F.1 f hf (hts _ hw) (fun _ h => h) (v := .int (σ k f)) ?_ hdg kk
  rw [List.getElem?_mapIdx, hl]
  rfl
theorem r_getr (C : Cx w g p s m args meth c cc nL own ret) {ci N index : Nat} {Cn : String} {T : u_T} {ty : Nat → FieldType} (F : ClF ci Cn T N ty) (hP : wS w g σ H) {fl : List (Option Nat)} (hs : w.1 k = .inr (.inl (ci, fl))) (hk : k < w.2.1) (f : Nat) (hf : f < N) {j : Nat} (hl : fl[f]? = some (some j)) (hw : Cond.fieldLink own index (T f).1 (T f).2.1 (T f).2.2.1 ∈ wsL_law) (hdg : decode cc pc = .ok (.getfield index, 3))
    (kk : W p l e R s m args below meth c H locs cells slots Q (F0 m (pc + 3) ls (.ref (adG g j) :: rest))) : W p l e R s m args below meth c H locs cells slots Q (F0 m pc ls (.ref (adG g k) :: rest)) := by
  obtain ⟨hx, hb, hml, hown, hts, hr, hlk, hK, hZ⟩ := C
  refine va_get hx hb hts F.2.1 hown hK hP.1 k (fs := fl.mapIdx (fvS g.2.2.1 (σ k))) (by rw [wlS_get hk, hs]; rfl) F.1 f hf (hts _ hw) (fun _ h => h) (v := .ref (adG g j)) ?_ hdg kk
  rw [List.getElem?_mapIdx, hl]
  rfl
theorem r_puti (C : Cx w g p s m args meth c cc nL own ret) {ci N index : Nat} {Cn : String} {T : u_T} {ty : Nat → FieldType} (F : ClF ci Cn T N ty) (hP : wS w g σ H) (hS : va_S (AS w g) s.heap H locs) {fl : List (Option Nat)} (hs : w.1 k = .inr (.inl (ci, fl))) (hk : k < w.2.1) (f : Nat) (hf : f < N) (hl : fl[f]? = some none) (hfin : (T f).2.2.2 = false) (hty : ty f = .int) (hw : Cond.fieldLink own index (T f).1 (T f).2.1 (T f).2.2.1 ∈ wsL_law) (hdg : decode cc pc = .ok (.putfield index, 3)) {x : Int32}
    (kk : ∀ (H1 : Heap) (locs1 : List Loc) (σ1 : Sto), σ1 = up σ k f x → wS w g σ1 H1 → va_S (AS w g) s.heap H1 locs1 → W p l e R s m args below meth c H1 locs1 cells slots Q (F0 m (pc + 3) ls rest)) : W p l e R s m args below meth c H locs cells slots Q (F0 m pc ls (.int x :: .ref (adG g k) :: rest)) := by
  obtain ⟨hx, hb, hml, hown, hts, hr, hlk, hK, hZ⟩ := C
  have hlen : f < (fl.mapIdx (fvS g.2.2.1 (σ k))).length := by
    rw [List.length_mapIdx]
    exact (List.getElem?_eq_some_iff.mp hl).1
  refine va_put hx hb hts F.2.1 ty F.2.2.1 F.2.2.2 hown hK hP.1 (wS_D hP) hS k (fs := fl.mapIdx (fvS g.2.2.1 (σ k))) (by rw [wlS_get hk, hs]; rfl) F.1 f hf (hts _ hw) (fun _ h => h) hfin (ty := .int) (v := .int x) (by rw [F.2.2.1 f hf, hty]) rfl rfl hlen hdg (fun H1 locs1 h1 h2 h3 => ?_)
  refine kk H1 locs1 _ rfl ⟨?_, hP.2⟩ h3
  rw [wlS_set (σ' := up σ k f x) (fun a ha => up_ne ha) (by rw [hs, up_at]; exact congrArg (fun z => Sum.inr (ci, z)) (mapIdx_set _ _ _ _ _ hl).symm)] at h1
  exact h1
theorem r_iald (C : Cx w g p s m args meth c cc nL own ret) (hP : wS w g σ H) {n : Nat} (hs : w.1 k = .inl (0, n)) (hk : k < w.2.1) {i : Int32} {j : Nat} (hj : i.toNatClampNeg = j) (hin : vin i n = true) (hdg : decode cc pc = .ok (.iaload, 1))
    (kk : W p l e R s m args below meth c H locs cells slots Q (F0 m (pc + 1) ls (.int (σ k j) :: rest))) : W p l e R s m args below meth c H locs cells slots Q (F0 m pc ls (.int i :: .ref (adG g k) :: rest)) := by
  subst hj
  obtain ⟨hx, hb, hml, hown, hts, hr, hlk, hK, hZ⟩ := C
  exact va_iald hx hb hK hP.1 k 0 (n := n) (f := σ k) (by rw [wlS_get hk, hs]; rfl) rfl (vin_in hin) hdg kk
theorem r_zald (C : Cx w g p s m args meth c cc nL own ret) (hP : wS w g σ H) {n : Nat} (hs : w.1 k = .inl (1, n)) (hk : k < w.2.1) {i : Int32} {j : Nat} (hj : i.toNatClampNeg = j) (hin : vin i n = true) (hdg : decode cc pc = .ok (.baload, 1))
    (kk : W p l e R s m args below meth c H locs cells slots Q (F0 m (pc + 1) ls (.int (σ k j) :: rest))) : W p l e R s m args below meth c H locs cells slots Q (F0 m pc ls (.int i :: .ref (adG g k) :: rest)) := by
  subst hj
  obtain ⟨hx, hb, hml, hown, hts, hr, hlk, hK, hZ⟩ := C
  exact va_zald hx hb hK hP.1 k 1 (n := n) (f := σ k) (by rw [wlS_get hk, hs]; rfl) rfl (vin_in hin) hdg kk
theorem r_iast (C : Cx w g p s m args meth c cc nL own ret) (hP : wS w g σ H) (hS : va_S (AS w g) s.heap H locs) {n : Nat} (hs : w.1 k = .inl (0, n)) (hk : k < w.2.1) {i x : Int32} {j : Nat} (hj : i.toNatClampNeg = j) (hin : vin i n = true) (hdg : decode cc pc = .ok (.iastore, 1))
    (kk : ∀ (H1 : Heap) (locs1 : List Loc) (σ1 : Sto), σ1 = up σ k j x → wS w g σ1 H1 → va_S (AS w g) s.heap H1 locs1 → W p l e R s m args below meth c H1 locs1 cells slots Q (F0 m (pc + 1) ls rest)) : W p l e R s m args below meth c H locs cells slots Q (F0 m pc ls (.int x :: .int i :: .ref (adG g k) :: rest)) := by
  subst hj
  obtain ⟨hx, hb, hml, hown, hts, hr, hlk, hK, hZ⟩ := C
  refine va_iast hx hb hK hP.1 (wS_D hP) hS k 0 (n := n) (f := σ k) (by rw [wlS_get hk, hs]; rfl) rfl (vin_in hin) hdg (fun H1 locs1 h1 h2 h3 => ?_)
  refine kk H1 locs1 _ rfl ⟨?_, hP.2⟩ h3
  rw [wlS_set (σ' := up σ k i.toNatClampNeg x) (fun a ha => up_ne ha) (by rw [hs, up_at]; rfl)] at h1
  exact h1
theorem r_zast (C : Cx w g p s m args meth c cc nL own ret) (hP : wS w g σ H) (hS : va_S (AS w g) s.heap H locs) {n : Nat} (hs : w.1 k = .inl (1, n)) (hk : k < w.2.1) {i x : Int32} {j : Nat} (hj : i.toNatClampNeg = j) (hin : vin i n = true) (hdg : decode cc pc = .ok (.bastore, 1))
    (kk : ∀ (H1 : Heap) (locs1 : List Loc) (σ1 : Sto), σ1 = up σ k j (vp_nar .boolean x) → wS w g σ1 H1 → va_S (AS w g) s.heap H1 locs1 → W p l e R s m args below meth c H1 locs1 cells slots Q (F0 m (pc + 1) ls rest)) : W p l e R s m args below meth c H locs cells slots Q (F0 m pc ls (.int x :: .int i :: .ref (adG g k) :: rest)) := by
  subst hj
  obtain ⟨hx, hb, hml, hown, hts, hr, hlk, hK, hZ⟩ := C
  refine va_zast hx hb hK hP.1 (wS_D hP) hS k 1 (n := n) (f := σ k) (by rw [wlS_get hk, hs]; rfl) rfl (vin_in hin) hdg (fun H1 locs1 h1 h2 h3 => ?_)
  refine kk H1 locs1 _ rfl ⟨?_, hP.2⟩ h3
  rw [wlS_set (σ' := up σ k i.toNatClampNeg (vp_nar .boolean x)) (fun a ha => up_ne ha) (by rw [hs, up_at]; rfl)] at h1
  exact h1
theorem r_aald (C : Cx w g p s m args meth c cc nL own ret) (hP : wS w g σ H) {t n : Nat} {fn : Nat → Nat} (hs : w.1 k = .inr (.inr (t, n, fn))) (hk : k < w.2.1) {ty : FieldType} (ht : (tyS g)[t]? = some (g.2.1 t, ty)) (hty : ty.isReference = true) {i : Int32} (hin : vin i n = true) (hdg : decode cc pc = .ok (.aaload, 1))
    (kk : W p l e R s m args below meth c H locs cells slots Q (F0 m (pc + 1) ls (.ref (adG g (fn i.toNatClampNeg)) :: rest))) : W p l e R s m args below meth c H locs cells slots Q (F0 m pc ls (.int i :: .ref (adG g k) :: rest)) := by
  obtain ⟨hx, hb, hml, hown, hts, hr, hlk, hK, hZ⟩ := C
  have hin2 := vin_in hin
  have hlt : i.toNatClampNeg < n := Nat.not_le.mp fun q => hin2 (Or.inr q)
  have ha : (wlS w g σ)[k]? = some (adG g k, .inl (g.2.1 t, n, .inr (.inr (.inr (.inr (fun i => if i < n then some (g.2.2.1 (fn i)) else none)))))) := by
    rw [wlS_get hk, hs]
    rfl
  refine W.aald (v := .ref (adG g (fn i.toNatClampNeg))) (ty := ty) hx hb (hP.1 k _ ha) ((hK.2 t _ ht).1 n (fun j => va_rf (if j < n then some (g.2.2.1 (fn j)) else none))) hty (fun q => by cases q) (by show ¬ (i < 0 ∨ (arrV _ _ _).slots.size ≤ _); rw [arrV_size]; exact hin2) (by show (arrV _ _ _).slots[_]? = _; rw [arrV_read _ _ hlt]; simp [hlt, va_rf]) rfl rfl hdg kk
theorem r_copy (C : Cx w g p s m args meth c cc nL own ret) (hls : ls.size = nL) {index : Nat} (hlink : Cond.methodLink own index arraycopyName ∈ wsL_law) (hnat : Cond.native arraycopyName ∈ wsL_law) (hstat : Cond.static arraycopyName ∈ wsL_law) (hini : Cond.initialized "java/lang/System" ∈ wsL_law) (hP : wS w g σ H) (hS : va_S (AS w g) s.heap H locs) {k1 n0 n1 : Nat} (hs : w.1 k = .inl (0, n0)) (hk : k < w.2.1) (hs1 : w.1 k1 = .inl (0, n1)) (hk1 : k1 < w.2.1) {sp dp n : Int32} (hok : cpok sp dp n n0 n1 = true) {sq dq nq : Nat} (hq1 : sp.toNatClampNeg = sq) (hq2 : dp.toNatClampNeg = dq) (hq3 : n.toNatClampNeg = nq) (hR : 1 ≤ R.frames ∧ (rest.map fun v => v.category).sum + (nativeFrameWords "java/lang/System" "arraycopy" 5 + 11) ≤ R.locals) (hdg : decode cc pc = .ok (.invokestatic index, 3))
    (kk : ∀ (H1 : Heap) (locs1 : List Loc) (σ1 : Sto), σ1 = cpS σ k sq k1 dq nq → wS w g σ1 H1 → va_S (AS w g) s.heap H1 locs1 → W p l e R s m args below meth c H1 locs1 cells slots Q (F0 m (pc + 3) ls rest)) : W p l e R s m args below meth c H locs cells slots Q (F0 m pc ls (.int n :: .int dp :: .ref (adG g k1) :: .int sp :: .ref (adG g k) :: rest)) := by
  subst hq1
  subst hq2
  subst hq3
  obtain ⟨hx, hb, hml, hown, hts, hr, hlk, hK, hZ⟩ := C
  obtain ⟨h1, h2, h3, h4, h5⟩ := cpok_inv hok
  refine va_copyi hx hb (hml.trans hls.symm) hown (hts _ hlink) (hts _ hnat) (hts _ hstat) (hts _ hini) hK hP.1 (wS_D hP) hS k k1 0 0 (ty := .int) (n0 := n0) (n1 := n1) (f := σ k) (g := σ k1) (by rw [wlS_get hk, hs]; rfl) (by rw [wlS_get hk1, hs1]; rfl) rfl rfl rfl h1 h2 h3 h4 h5 (fun i _ => rfl) hR.1 hR.2 hdg (fun H1 locs1 q1 q2 q3 => ?_)
  refine kk H1 locs1 _ rfl ⟨?_, hP.2⟩ q3
  rw [wlS_set (σ' := cpS σ k sp.toNatClampNeg k1 dp.toNatClampNeg n.toNatClampNeg) (fun j hj => cpS_ne hj) (by rw [hs1, cpS_at]; rfl)] at q1
  exact q1
theorem r_gets (C : Cx w g p s m args meth c cc nL own ret) (hS : va_S (AS w g) s.heap H locs) (i : Nat) {q : String × String × List Int32} (hi : w.2.2[i]? = some q) {index : Nat} (hlink : Cond.fieldLink own index q.1 q.2.1 "[I" ∈ wsL_law) (hdg : decode cc pc = .ok (.getstatic index, 3))
    (kk : W p l e R s m args below meth c H locs cells slots Q (F0 m (pc + 3) ls (.ref (g.2.2.2 i) :: rest))) : W p l e R s m args below meth c H locs cells slots Q (F0 m pc ls rest) := by
  obtain ⟨hx, hb, hml, hown, hts, hr, hlk, hK, hZ⟩ := C
  exact va_gets hx hb (hZ.2 i q hi).1 hS hown (hts _ hlink) (fun _ h => h) hdg kk
theorem r_getsN (C : Cx w g p s m args meth c cc nL RX0 ret) (hS : va_S (AS w g) s.heap H locs) (i : Nat) {L : List Int32} (hi : w.2.2[i]? = some ("LavaLodger", "KIND_ABOVE", L)) (hdg : decode cc pc = .ok (.getstatic 38, 3))
    (kk : W p l e R s m args below meth c H locs cells slots Q (F0 m (pc + 3) ls (.ref (g.2.2.2 i) :: rest))) : W p l e R s m args below meth c H locs cells slots Q (F0 m pc ls rest) := by
  obtain ⟨hx, hb, hml, hown, hts, hr, hlk, hK, hZ⟩ := C
  exact va_getsN hx hb (hZ.2 i _ hi).1 hS hown (va_Nw.use rfl hZ.1) (fun _ h => h) hdg kk
theorem r_tabi (C : Cx w g p s m args meth c cc nL own ret) (hS : va_S (AS w g) s.heap H locs) (i : Nat) {q : String × String × List Int32} (hi : w.2.2[i]? = some q) {x : Int32} {n : Nat} (hn : q.2.2.length = n) (hin : vin x n = true) (hdg : decode cc pc = .ok (.iaload, 1))
    (kk : W p l e R s m args below meth c H locs cells slots Q (F0 m (pc + 1) ls (.int (q.2.2.getD x.toNatClampNeg 0) :: rest))) : W p l e R s m args below meth c H locs cells slots Q (F0 m pc ls (.int x :: .ref (g.2.2.2 i) :: rest)) := by
  obtain ⟨hx, hb, hml, hown, hts, hr, hlk, hK, hZ⟩ := C
  exact va_ti hx hb (hZ.2 i q hi).2 hS (vin_in (by rw [hn]; exact hin)) rfl hdg kk
theorem r_min (C : Cx w g p s m args meth c cc nL own ret) (hls : ls.size = nL) {index : Nat} (hlink : Cond.methodLink own index Lib.Math.min.name ∈ wsL_law) (hstat : Cond.static Lib.Math.min.name ∈ wsL_law) (hini : Cond.initialized "java/lang/Math" ∈ wsL_law) (hcode : Cond.code Lib.Math.min.name Lib.Math.min.code 2 (some .int) ∈ wsL_law) (hR : 1 ≤ R.frames ∧ (rest.map fun v => v.category).sum + 13 ≤ R.locals) (hc : cells ≤ R.cells) (hs : slots ≤ R.slots) {x y : Int32} (hdg : decode cc pc = .ok (.invokestatic index, 3))
    (kk : W p l e R s m args below meth c H locs cells slots Q (F0 m (pc + 3) ls (.int (if y < x then y else x) :: rest))) : W p l e R s m args below meth c H locs cells slots Q (F0 m pc ls (.int y :: .int x :: rest)) := by
  obtain ⟨hx, hb, hml, hown, hts, hr, hlk, hK, hZ⟩ := C
  exact va_mmin hx hb (hml.trans hls.symm) hown (hts _ hlink) (hts _ hstat) (hts _ hini) (hts _ hcode) hR.1 hR.2 hc hs hdg kk
theorem r_max (C : Cx w g p s m args meth c cc nL own ret) (hls : ls.size = nL) {index : Nat} (hlink : Cond.methodLink own index Lib.Math.max.name ∈ wsL_law) (hstat : Cond.static Lib.Math.max.name ∈ wsL_law) (hini : Cond.initialized "java/lang/Math" ∈ wsL_law) (hcode : Cond.code Lib.Math.max.name Lib.Math.max.code 2 (some .int) ∈ wsL_law) (hR : 1 ≤ R.frames ∧ (rest.map fun v => v.category).sum + 13 ≤ R.locals) (hc : cells ≤ R.cells) (hs : slots ≤ R.slots) {x y : Int32} (hdg : decode cc pc = .ok (.invokestatic index, 3))
    (kk : W p l e R s m args below meth c H locs cells slots Q (F0 m (pc + 3) ls (.int (if x < y then y else x) :: rest))) : W p l e R s m args below meth c H locs cells slots Q (F0 m pc ls (.int y :: .int x :: rest)) := by
  obtain ⟨hx, hb, hml, hown, hts, hr, hlk, hK, hZ⟩ := C
  exact va_mmax hx hb (hml.trans hls.symm) hown (hts _ hlink) (hts _ hstat) (hts _ hini) (hts _ hcode) hR.1 hR.2 hc hs hdg kk
theorem r_tin (hx : p.tables.exec = Jvm.exec) (hb : c.code = cc) {dflt lo hi : Int} {offs : Array Int} {len : Nat} {x v : Int32} {off : Int} {tgt : Nat} (hdg : decode cc pc = .ok (.tableswitch dflt lo hi offs, len)) (hv : x = v) (h1 : ¬ v.toInt < lo) (h2 : ¬ hi < v.toInt) (ho : offs[(v.toInt - lo).toNat]? = some off) (ht : (pc : Int) + off = (tgt : Int))
    (kk : W p l e R s m args below meth c H locs cells slots Q (F0 m tgt ls rest)) : W p l e R s m args below meth c H locs cells slots Q (F0 m pc ls (.int x :: rest)) := by
  subst hv
  exact lv_tableIn hx hb hdg h1 h2 ho ht kk
theorem r_lin (hx : p.tables.exec = Jvm.exec) (hb : c.code = cc) {dflt : Int} {ps : Array (Int × Int)} {len : Nat} {x v : Int32} {off : Int} {tgt : Nat} (hdg : decode cc pc = .ok (.lookupswitch dflt ps, len)) (hv : x = v) (hp : (ps.toList.zip (ps.toList.drop 1)).all (fun (a, next) => a.1 < next.1) = true) (ho : Op.lookupswitch.offset ps.toList dflt v.toInt = off) (ht : (pc : Int) + off = (tgt : Int))
    (kk : W p l e R s m args below meth c H locs cells slots Q (F0 m tgt ls rest)) : W p l e R s m args below meth c H locs cells slots Q (F0 m pc ls (.int x :: rest)) := by
  subst hv
  exact lv_lookup hx hb hdg hp ho ht kk
end RWS
