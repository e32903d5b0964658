/-! the store, the shapes of the cells, the world that a class and what it made stand in -/
abbrev Sto : Type := Nat → Nat → Int32
def up (σ : Sto) (k i : Nat) (x : Int32) : Sto := fun a j => if a = k then (if j = i then x else σ a j) else σ a j
def cpS (σ : Sto) (a sp b dp n : Nat) : Sto := fun q j => if q = b then va_cpy (σ a) (σ b) sp dp n j else σ q j
/-- an array of numbers (kind, length); an object (class, fields: a number, or a fixed cell); an array of fixed cells (kind, length, which) -/
abbrev Shp : Type := (Nat × Nat) ⊕ ((Nat × List (Option Nat)) ⊕ (Nat × Nat × (Nat → Nat)))
/-- class numbers and slots; array classes; addresses of the cells; addresses of the static arrays -/
abbrev Gw : Type := va_G × (Nat → ClassId) × (Nat → Nat) × (Nat → Nat)
/-- shapes, how many cells, the static arrays -/
abbrev Wk : Type := (Nat → Shp) × Nat × List (String × String × List Int32)
abbrev adG (g : Gw) (k : Nat) : Nat := g.2.2.1 k
def fvS (ad : Nat → Nat) (f : Nat → Int32) (i : Nat) (o : Option Nat) : Value := match o with
  | none => .int (f i)
  | some j => .ref (ad j)
def ceS (sh : Shp) (cs : Nat → ClassId) (ad : Nat → Nat) (f : Nat → Int32) : va_E := match sh with
  | .inl q => .inl (cs q.1, q.2, .inl f)
  | .inr (.inl q) => .inr (q.1, q.2.mapIdx (fvS ad f))
  | .inr (.inr q) => .inl (cs q.1, q.2.1, .inr (.inr (.inr (.inr (fun i => if i < q.2.1 then some (ad (q.2.2 i)) else none)))))
def wlS (w : Wk) (g : Gw) (σ : Sto) : va_W := (List.range w.2.1).map (fun k => (adG g k, ceS (w.1 k) g.2.1 g.2.2.1 (σ k)))
def wS (w : Wk) (g : Gw) (σ : Sto) (H : Heap) : Prop := va_P g.1 vwCl (wlS w g σ) H ∧ ∀ i j, i < w.2.1 → j < w.2.1 → adG g i = adG g j → i = j
def AS (w : Wk) (g : Gw) : Nat → Prop := fun q => ∃ k, k < w.2.1 ∧ q = adG g k
abbrev tyS (g : Gw) : List (ClassId × FieldType) := [(g.2.1 0, .int), (g.2.1 1, .boolean), (g.2.1 2, .object "LavaLodger$Village"), (g.2.1 3, .array .int)]
def KS (g : Gw) (U : State) : Prop := va_K g.1 vwCl (tyS g) U
def NS (U : State) : Prop := va_Nw (.fieldLinkNest RX0 38 "LavaLodger" "KIND_ABOVE" "[I" "LavaLodger") U
def ZS (w : Wk) (g : Gw) (U : State) : Prop := NS U ∧ ∀ (i : Nat) (q : String × String × List Int32), w.2.2[i]? = some q → va_Z q.1 q.2.1 "[I" (.ref (g.2.2.2 i)) (AS w g) U U.heap ∧ va_T .int (g.2.2.2 i) q.2.2.length (fun j => .int (q.2.2.getD j 0)) (AS w g) U U.heap
theorem wlS_get {w : Wk} {g : Gw} {σ : Sto} {k : Nat} (hk : k < w.2.1) : (wlS w g σ)[k]? = some (adG g k, ceS (w.1 k) g.2.1 g.2.2.1 (σ k)) := by
  simp [wlS, hk]
theorem wlS_len (w : Wk) (g : Gw) (σ : Sto) : (wlS w g σ).length = w.2.1 := by simp [wlS]
theorem wlS_at {w : Wk} {g : Gw} {σ : Sto} {k : Nat} {q : Nat × va_E} (h : (wlS w g σ)[k]? = some q) : k < w.2.1 ∧ q = (adG g k, ceS (w.1 k) g.2.1 g.2.2.1 (σ k)) := by
  have hk : k < w.2.1 := by
    have := (List.getElem?_eq_some_iff.mp h).1
    rwa [wlS_len] at this
  rw [wlS_get hk] at h
  exact ⟨hk, (Option.some.inj h).symm⟩
theorem wS_D {w : Wk} {g : Gw} {σ : Sto} {H : Heap} (h : wS w g σ H) : va_D (AS w g) (wlS w g σ) := by
  refine ⟨fun i j p q hi hj hpq => ?_, fun k q hk => ?_⟩
  · obtain ⟨h1, rfl⟩ := wlS_at hi
    obtain ⟨h2, rfl⟩ := wlS_at hj
    exact h.2 i j h1 h2 hpq
  · obtain ⟨h1, rfl⟩ := wlS_at hk
    exact ⟨k, h1, rfl⟩
theorem wlS_set {w : Wk} {g : Gw} {σ σ' : Sto} {k : Nat} {E : va_E} (ho : ∀ j, j ≠ k → σ' j = σ j) (hE : ceS (w.1 k) g.2.1 g.2.2.1 (σ' k) = E) : (wlS w g σ).set k (adG g k, E) = wlS w g σ' := by
  apply List.ext_getElem?
  intro j
  by_cases hj : j < w.2.1
  · by_cases hjk : j = k
    · subst hjk
      rw [List.getElem?_set_self (by rw [wlS_len]; exact hj), wlS_get hj, hE]
    · rw [List.getElem?_set_ne (Ne.symm hjk), wlS_get hj, wlS_get hj, ho j hjk]
  · rw [List.getElem?_eq_none (by rw [List.length_set, wlS_len]; omega), List.getElem?_eq_none (by rw [wlS_len]; omega)]
theorem up_ne {σ : Sto} {k i j : Nat} {x : Int32} (h : j ≠ k) : up σ k i x j = σ j := by
  funext a
  simp [up, h]
theorem up_at (σ : Sto) (k i : Nat) (x : Int32) : up σ k i x k = upd (σ k) i x := by
  funext a
  simp [up, upd]
theorem cpS_ne {σ : Sto} {a sp b dp n j : Nat} (h : j ≠ b) : cpS σ a sp b dp n j = σ j := by
  funext q
  simp [cpS, h]
theorem cpS_at (σ : Sto) (a sp b dp n : Nat) : cpS σ a sp b dp n b = va_cpy (σ a) (σ b) sp dp n := by
  funext q
  simp [cpS]
theorem mapIdx_set (ad : Nat → Nat) (f : Nat → Int32) (fl : List (Option Nat)) (i : Nat) (x : Int32) (h : fl[i]? = some none) : (fl.mapIdx (fvS ad f)).set i (.int x) = fl.mapIdx (fvS ad (upd f i x)) := by
  apply List.ext_getElem?
  intro j
  by_cases hj : j = i
  · subst hj
    have hl : j < fl.length := (List.getElem?_eq_some_iff.mp h).1
    rw [List.getElem?_set_self (by rw [List.length_mapIdx]; exact hl), List.getElem?_mapIdx, h]
    simp [fvS, upd]
  · rw [List.getElem?_set_ne (Ne.symm hj), List.getElem?_mapIdx, List.getElem?_mapIdx]
    cases fl[j]? with
    | none => rfl
    | some o => cases o <;> simp [fvS, upd, hj]
/-! guards, names, binds: what a method's function is made of, and how its value is taken apart -/
def vin (i : Int32) (n : Nat) : Bool := !(decide (i < 0) || decide (n ≤ i.toNatClampNeg))
theorem vin_in {i : Int32} {n : Nat} (h : vin i n = true) : vp_in i n := by
  simp only [vin, Bool.not_eq_true', Bool.or_eq_false_iff, decide_eq_false_iff_not] at h
  exact fun q => q.elim h.1 h.2
def gd {α : Type} (b : Bool) (x : Option α) : Option α := match b with
  | true => x
  | false => none
theorem gd_inv {α : Type} {b : Bool} {x : Option α} {r : α} (h : gd b x = some r) : b = true ∧ x = some r := by
  cases b with
  | true => exact ⟨rfl, h⟩
  | false => cases h
def nz (x : Int32) : Bool := decide (¬ x = 0)
theorem nz_ne {x : Int32} (h : nz x = true) : ¬ x = 0 := of_decide_eq_true h
def nzL (x : Int64) : Bool := decide (¬ x = 0)
theorem nzL_ne {x : Int64} (h : nzL x = true) : ¬ x = 0 := of_decide_eq_true h
def isB (x : Int32) : Bool := decide (x = 0 ∨ x = 1)
theorem isB_nar {x : Int32} (h : isB x = true) : narrow .boolean (.int x) = .int x := by
  rcases of_decide_eq_true h with rfl | rfl <;> rfl
def un {α β : Type} (x : α) (f : α → β) : β := f x
theorem un_at {α β : Type} {x y : α} {f : α → β} {r : β} (e : y = x) (h : un x f = r) : f y = r := by
  subst e
  exact h
def bd {α β : Type} (x : Option α) (f : α → Option β) : Option β := match x with
  | none => none
  | some a => f a
theorem bd_inv {α β : Type} {x : Option α} {f : α → Option β} {r : β} (h : bd x f = some r) : ∃ a, x = some a ∧ f a = some r := by
  cases x with
  | none => cases h
  | some a => exact ⟨a, rfl, h⟩
theorem if_t {c : Prop} {d : Decidable c} {α : Type} {a b r : α} (hc : c) (h : @ite α c d a b = r) : a = r := by
  rw [if_pos hc] at h
  exact h
theorem if_f {c : Prop} {d : Decidable c} {α : Type} {a b r : α} (hc : ¬ c) (h : @ite α c d a b = r) : b = r := by
  rw [if_neg hc] at h
  exact h
def fu : Nat := 100000
def cpok (sp dp n : Int32) (n0 n1 : Nat) : Bool := decide (¬ sp < 0) && (decide (¬ dp < 0) && (decide (¬ n < 0) && (decide (sp.toNatClampNeg + n.toNatClampNeg ≤ n0) && decide (dp.toNatClampNeg + n.toNatClampNeg ≤ n1))))
theorem cpok_inv {sp dp n : Int32} {n0 n1 : Nat} (h : cpok sp dp n n0 n1 = true) : ¬ sp < 0 ∧ ¬ dp < 0 ∧ ¬ n < 0 ∧ sp.toNatClampNeg + n.toNatClampNeg ≤ n0 ∧ dp.toNatClampNeg + n.toNatClampNeg ≤ n1 := by
  simp only [cpok, Bool.and_eq_true, decide_eq_true_eq] at h
  exact ⟨h.1, h.2.1, h.2.2.1, h.2.2.2.1, h.2.2.2.2⟩
/-! a method's context; class facts -/
def Cx (w : Wk) (g : Gw) (p : Program) (s : State) (m : MethodId) (args : Array Value) (meth : Method) (c : Code) (cc : ByteArray) (nL : Nat) (own : String) (ret : Option FieldType) : Prop :=
  p.tables.exec = Jvm.exec ∧ c.code = cc ∧ c.maxLocals = nL ∧ s.vm.findClass own = some m.cls ∧ (∀ w ∈ wsL_law, w.before args s = true) ∧ meth.sig.returnType = ret ∧ meth.locks = false ∧ KS g s ∧ ZS w g s
def ClF (ci : Nat) (C : String) (T : u_T) (N : Nat) (ty : Nat → FieldType) : Prop := vwCl[ci]? = some (C, T, N) ∧ (∀ w ∈ u_ws C T N, w ∈ wsL_law) ∧ (∀ k, k < N → parseFieldDescriptor (T k).2.2.1 = some (ty k)) ∧ (∀ a, a < N → ∀ b, b < N → a ≠ b → (T a).2.1 ≠ (T b).2.1)
theorem cf_0 : ClF 0 RX0 TX0 2 tyX0 := ⟨rfl, inlX0, tyX0_ok, nmX0⟩
theorem cf_1 : ClF 1 RX1 TX1 8 tyX1 := ⟨rfl, inlX1, tyX1_ok, nmX1⟩
theorem cf_2 : ClF 2 RX2 TX2 2 tyX2 := ⟨rfl, inlX2, tyX2_ok, nmX2⟩
theorem cf_3 : ClF 3 RX3 TX3 3 tyX3 := ⟨rfl, inlX3, tyX3_ok, nmX3⟩
theorem cf_4 : ClF 4 RX4 TX4 3 tyX4 := ⟨rfl, inlX4, tyX4_ok, nmX4⟩
theorem cf_5 : ClF 5 RX5 TX5 4 tyX5 := ⟨rfl, inlX5, tyX5_ok, nmX5⟩
theorem cf_6 : ClF 6 RX6 TX6 6 tyX6 := ⟨rfl, inlX6, tyX6_ok, nmX6⟩
theorem cf_7 : ClF 7 RX7 TX7 6 tyX7 := ⟨rfl, inlX7, tyX7_ok, nmX7⟩
theorem cf_8 : ClF 8 RX8 TX8 12 tyX8 := ⟨rfl, inlX8, tyX8_ok, nmX8⟩
theorem cf_9 : ClF 9 RX9 TX9 10 tyX9 := ⟨rfl, inlX9, tyX9_ok, nmX9⟩
theorem cf_10 : ClF 10 RX10 TX10 24 tyX10 := ⟨rfl, inlX10, tyX10_ok, nmX10⟩
theorem tb_good : wsL_law.all goodWord = true := by decide +kernel
theorem tb_goodIn {ws : List Cond} (h : ∀ w ∈ ws, w ∈ wsL_law) : GoodIn wsL_law ws := fun w hw => ⟨h w hw, good_of_word (List.all_eq_true.mp tb_good w (h w hw))⟩
abbrev irm (x y : Int32) : Int32 := x - x / y * y
abbrev lrm (x y : Int64) : Int64 := x - x / y * y
abbrev ush (x y : Int32) : Int32 := (x.toUInt32 >>> (y.toUInt32 &&& Int32.toUInt32 31)).toInt32
