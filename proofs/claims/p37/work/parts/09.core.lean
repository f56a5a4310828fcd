/-! THE PURE HEAP: what the machine's cells stand for. A number of the machine stands for an integer (zI, zL); a cell by its address: its kind and size, what its places hold (ints, longs, addresses: 0 is null) -/
def zI (e : Int) : Int32 := Int32.ofInt e
def zL (e : Int) : Int64 := Int64.ofInt e
abbrev in32 (e : Int) : Prop := -2147483648 ≤ e ∧ e < 2147483648
abbrev in64 (e : Int) : Prop := -9223372036854775808 ≤ e ∧ e < 9223372036854775808
theorem zI_toInt {e : Int} (h : in32 e) : (zI e).toInt = e := Int32.toInt_ofInt_of_le (by have := h.1; omega) (by have := h.2; omega)
theorem zI_of (x : Int32) : zI x.toInt = x := Int32.ofInt_toInt x
theorem zI_in (x : Int32) : in32 x.toInt := ⟨by have := Int32.le_toInt x; omega, by have := Int32.toInt_lt x; omega⟩
theorem zI_add (a b : Int) : zI a + zI b = zI (a + b) := (Int32.ofInt_add a b).symm
theorem zI_sub (a b : Int) : zI a - zI b = zI (a - b) := (Int32.ofInt_sub a b).symm
theorem zI_mul (a b : Int) : zI a * zI b = zI (a * b) := (Int32.ofInt_mul a b).symm
theorem zI_eq {a b : Int} (ha : in32 a) (hb : in32 b) : zI a = zI b ↔ a = b := by
  rw [← Int32.toInt_inj, zI_toInt ha, zI_toInt hb]
theorem zI_lt {a b : Int} (ha : in32 a) (hb : in32 b) : zI a < zI b ↔ a < b := by
  rw [Int32.lt_iff_toInt_lt, zI_toInt ha, zI_toInt hb]
theorem zI_le {a b : Int} (ha : in32 a) (hb : in32 b) : zI a ≤ zI b ↔ a ≤ b := by
  rw [Int32.le_iff_toInt_le, zI_toInt ha, zI_toInt hb]
theorem zI_cl {e : Int} (h0 : 0 ≤ e) (h1 : e < 2147483648) : (((zI e).toNatClampNeg : Nat) : Int) = e := by
  show (((zI e).toInt.toNat : Nat) : Int) = e
  rw [zI_toInt ⟨by omega, h1⟩]
  omega
theorem zI_vp {i : Int} {n : Nat} (h : 0 ≤ i ∧ i < (n : Int)) (hn : i < 2147483648) : vp_in (zI i) n := by
  rw [vp_in_iff, zI_toInt ⟨by omega, hn⟩]
  exact h
theorem zI_div {a b : Int} (ha : 0 ≤ a) (ha2 : a < 2147483648) (hb : 0 < b) (hb2 : b < 2147483648) : zI a / zI b = zI (a / b) := by
  have h := Int32.ofInt_tdiv (a := a) (b := b) (by show (-2147483648 : Int) ≤ a; omega) (by show a ≤ (2147483647 : Int); omega) (by show (-2147483648 : Int) ≤ b; omega) (by show b ≤ (2147483647 : Int); omega)
  rw [Int.tdiv_eq_ediv_of_nonneg ha] at h
  exact h.symm
theorem zI_rem {a b : Int} (ha : 0 ≤ a) (ha2 : a < 2147483648) (hb : 0 < b) (hb2 : b < 2147483648) : zI a - zI a / zI b * zI b = zI (a % b) := by
  rw [zI_div ha ha2 hb hb2, zI_mul, zI_sub, Int.emod_def, Int.mul_comm]
theorem zL_toInt {e : Int} (h : in64 e) : (zL e).toInt = e := Int64.toInt_ofInt_of_le (by have := h.1; omega) (by have := h.2; omega)
theorem zL_of (x : Int64) : zL x.toInt = x := Int64.ofInt_toInt x
theorem zL_add (a b : Int) : zL a + zL b = zL (a + b) := (Int64.ofInt_add a b).symm
theorem zL_sub (a b : Int) : zL a - zL b = zL (a - b) := (Int64.ofInt_sub a b).symm
theorem zL_mul (a b : Int) : zL a * zL b = zL (a * b) := (Int64.ofInt_mul a b).symm
theorem zL_eq {a b : Int} (ha : in64 a) (hb : in64 b) : zL a = zL b ↔ a = b := by
  rw [← Int64.toInt_inj, zL_toInt ha, zL_toInt hb]
theorem zL_lt {a b : Int} (ha : in64 a) (hb : in64 b) : zL a < zL b ↔ a < b := by
  rw [Int64.lt_iff_toInt_lt, zL_toInt ha, zL_toInt hb]
theorem zL_le {a b : Int} (ha : in64 a) (hb : in64 b) : zL a ≤ zL b ↔ a ≤ b := by
  rw [Int64.le_iff_toInt_le, zL_toInt ha, zL_toInt hb]
theorem zL_div {a b : Int} (ha : 0 ≤ a) (ha2 : a < 9223372036854775808) (hb : 0 < b) (hb2 : b < 9223372036854775808) : zL a / zL b = zL (a / b) := by
  have h := Int64.ofInt_tdiv (a := a) (b := b) (by show (-9223372036854775808 : Int) ≤ a; omega) (by show a ≤ (9223372036854775807 : Int); omega) (by show (-9223372036854775808 : Int) ≤ b; omega) (by show b ≤ (9223372036854775807 : Int); omega)
  rw [Int.tdiv_eq_ediv_of_nonneg ha] at h
  exact h.symm
theorem zL_rem {a b : Int} (ha : 0 ≤ a) (ha2 : a < 9223372036854775808) (hb : 0 < b) (hb2 : b < 9223372036854775808) : zL a - zL a / zL b * zL b = zL (a % b) := by
  rw [zL_div ha ha2 hb hb2, zL_mul, zL_sub, Int.emod_def, Int.mul_comm]
theorem zIL {e : Int} (h : in32 e) : (zI e).toInt64 = zL e := by
  rw [← Int64.toInt_inj, Int32.toInt_toInt64, zI_toInt h, zL_toInt ⟨by omega, by omega⟩]
theorem zLI (e : Int) : (zL e).toInt32 = zI e := Int64.toInt32_ofInt
abbrev qSh : Type := Nat → Nat × Nat
abbrev qI : Type := Nat → Int → Int
abbrev qR : Type := Nat → Int → Nat
abbrev qS : Type := Nat × qSh × qI × qI × qR
abbrev qEv : Type := va_G × (ClassId × ClassId × ClassId × ClassId) × Nat
/-- f, but v at the place i of the cell a -/
def up {α : Type} (f : Nat → Int → α) (a : Nat) (i : Int) (v : α) : Nat → Int → α := fun b j => if b = a ∧ j = i then v else f b j
theorem up_eq {α : Type} (f : Nat → Int → α) (a : Nat) (i : Int) (v : α) : up f a i v a i = v := if_pos ⟨rfl, rfl⟩
theorem up_na {α : Type} (f : Nat → Int → α) {a b : Nat} (i j : Int) (v : α) (h : b ≠ a) : up f a i v b j = f b j := if_neg (fun q => h q.1)
theorem up_ni {α : Type} (f : Nat → Int → α) {a b : Nat} {i j : Int} (v : α) (h : j ≠ i) : up f a i v b j = f b j := if_neg (fun q => h q.2)
def qrf (r : Nat) : Option Nat := if r = 0 then none else some r
def qfv (ty : FieldType) (i l : Int) (r : Nat) : Value := match ty with
  | .int => .int (zI i)
  | .boolean => .int (zI i)
  | .long => .long (zL l)
  | _ => va_rf (qrf r)
def qel (E : qEv) (S : qS) (a : Nat) : va_E := match (S.2.1 a).1 with
  | 0 => .inl (E.2.1.1, (S.2.1 a).2, .inl (fun k => zI (S.2.2.1 a k)))
  | 1 => .inl (E.2.1.2.1, (S.2.1 a).2, .inr (.inl (fun k => zL (S.2.2.2.1 a k))))
  | 2 => .inl (E.2.1.2.2.1, (S.2.1 a).2, .inr (.inr (.inr (.inr (fun k => qrf (S.2.2.2.2 a k))))))
  | 3 => .inl (E.2.1.2.2.2, (S.2.1 a).2, .inr (.inr (.inr (.inr (fun k => qrf (S.2.2.2.2 a k))))))
  | c + 4 => .inr (c, (List.range (qnf c)).map (fun k => qfv (qty c k) (S.2.2.1 a k) (S.2.2.2.1 a k) (S.2.2.2.2 a k)))
def qws (E : qEv) (S : qS) : va_W := (List.range S.1).map (fun k => (E.2.2 + k, qel E S (E.2.2 + k)))
def qtys (E : qEv) : List (ClassId × FieldType) := [(E.2.1.1, .int), (E.2.1.2.1, .long), (E.2.1.2.2.1, .array .int), (E.2.1.2.2.2, .object RX3)]
/-- an address of the world -/
def qad (E : qEv) (S : qS) (a : Nat) : Prop := E.2.2 ≤ a ∧ a < E.2.2 + S.1
theorem qws_at {E : qEv} {S : qS} {a : Nat} (h : qad E S a) : (qws E S)[a - E.2.2]? = some (a, qel E S a) := by
  obtain ⟨h1, h2⟩ := h
  have e : E.2.2 + (a - E.2.2) = a := by omega
  unfold qws
  rw [List.getElem?_map, List.getElem?_range (by omega)]
  show some (E.2.2 + (a - E.2.2), qel E S (E.2.2 + (a - E.2.2))) = _
  rw [e]
/-- one cell changed: the world of the changed state -/
theorem qws_set {E : qEv} {S S' : qS} {a : Nat} {x : va_E} (h : qad E S a) (hn : S'.1 = S.1) (hx : qel E S' a = x) (ho : ∀ b, b ≠ a → qel E S' b = qel E S b) : (qws E S).set (a - E.2.2) (a, x) = qws E S' := by
  obtain ⟨h1, h2⟩ := h
  apply List.ext_getElem?
  intro k
  unfold qws
  rw [hn, List.getElem?_set, List.getElem?_map, List.getElem?_map]
  by_cases hk : k < S.1
  · rw [List.getElem?_range hk]
    by_cases e : a - E.2.2 = k
    · rw [if_pos e, if_pos (by rw [List.length_map, List.length_range]; omega)]
      have e2 : E.2.2 + k = a := by omega
      show some (a, x) = some (E.2.2 + k, qel E S' (E.2.2 + k))
      rw [e2, hx]
    · rw [if_neg e]
      show some (E.2.2 + k, qel E S (E.2.2 + k)) = some (E.2.2 + k, qel E S' (E.2.2 + k))
      rw [ho _ (by omega)]
  · rw [if_neg (by omega)]
    simp [hk]
def qD (E : qEv) (S : qS) (A : Nat → Prop) (hA : ∀ q, E.2.2 ≤ q → A q) : va_D A (qws E S) := by
  have key : ∀ (i : Nat) (p : Nat × va_E), (qws E S)[i]? = some p → p.1 = E.2.2 + i := by
    intro i p h
    unfold qws at h
    rw [List.getElem?_map] at h
    cases hi : (List.range S.1)[i]? with
    | none => rw [hi] at h; cases h
    | some j =>
      rw [hi] at h
      cases h
      have := List.getElem?_eq_some_iff.mp hi
      obtain ⟨hl, e⟩ := this
      rw [List.getElem_range] at e
      subst e
      rfl
  exact ⟨fun i j p q hi hj e => by rw [key i p hi, key j q hj] at e; omega, fun k q hk => hA _ (by rw [key k q hk]; omega)⟩
/-- what else the tables say -/
def qnest : List Cond := [.methodLinkNest RX6 19 yX5_init RX6, .methodLinkNest RX6 29 yX4_init RX6, .methodLinkNest RX4 11 yX5_init RX6, .methodLinkNest RX6 42 yX1_init RX6, .methodLinkNest RX6 52 yX0_init RX6, .methodLinkNest RX6 59 yX2_init RX6, .methodLinkNest RX6 64 yX3_init RX6]
def qKs (E : qEv) (U : State) : Prop := va_K E.1 vwCl (qtys E) U ∧ (∀ w ∈ qnest, va_Nw w U) ∧ (Cond.arrayOver (.array .int)).before #[] U = true ∧ (Cond.arrayOver (.object RX3)).before #[] U = true
def qAt (E : qEv) (S : qS) (U : State) : Prop := U.heap.size = E.2.2 + S.1 ∧ va_P E.1 vwCl (qws E S) U.heap
/-- how a walk stands: its room; its end; what else is known of its start -/
abbrev qMo : Type := Room × (List Frame → Array Value → State → State → Prop) × (State → Prop)
def qwl (M : qMD) : List Cond := Cond.code M.1 M.2.1 M.2.2.1 M.2.2.2 :: qtb
def qrm (d mc ms : Nat) : Room := { frames := d, cells := mc, slots := ms, locals := 42 * d }
abbrev qPost : Type := Option Value → qS → Prop
def qA (E : qEv) : Nat → Prop := fun q => E.2.2 ≤ q
def qQc (E : qEv) (n1 : Nat) (F : qPost) : Array Value → State → Outcome → State → Prop := fun _ st oc t => (∃ (r : Option Value) (S' : qS), oc = .returned r ∧ S'.1 = n1 ∧ F r S' ∧ va_P E.1 vwCl (qws E S') t.heap) ∧ va_F (qA E) st t
/-- a method's contract: called so in a heap S, with d calls' room, it comes back, with F of its answer and of the heap then -/
def Ct (l : Launch) (E : qEv) (d : Nat) (M : qMD) (as : List Value) (S : qS) (mc ms : Nat) (F : qPost) : Prop :=
  Met l M.1 (qwl M) (qrm d mc ms) (va_Pc as (fun U => qAt E S U ∧ qKs E U)) (qQc E (S.1 + mc) F) mc ms (qA E)
/-- what is known in a walk -/
def qB (E : qEv) (Y : qMo) (M : qMD) (p : Program) (s : State) (m : MethodId) (args : Array Value) (meth : Method) (c : Code) : Prop :=
  p.tables.exec = Jvm.exec ∧ c.code = M.2.1 ∧ c.maxLocals = M.2.2.1 ∧ meth.sig.returnType = M.2.2.2 ∧ s.vm.findClass M.1.cls = some m.cls ∧ meth.locks = false ∧ (∀ w ∈ qwl M, w.before args s = true) ∧ meth.name = M.1.name ∧ qKs E s ∧ E.2.2 ≤ s.heap.size ∧ Y.2.2 s
/-- the heap of the walk -/
def qHp (E : qEv) (S : qS) (s : State) (k : Nat) (H : Heap) (locs : List Loc) : Prop := s.heap.size + k = E.2.2 + S.1 ∧ va_P E.1 vwCl (qws E S) H ∧ va_S (qA E) s.heap H locs
/-- from here (this place, these locals, this stack, this heap) the walk comes to its end -/
def Wk (l : Launch) (E : qEv) (Y : qMo) (M : qMD) (k j : Nat) (pc : Nat) (lo : List (Nat × Value)) (st : List Value) (S : qS) : Prop :=
  ∀ (p : Program) (e : Env) (s : State) (m : MethodId) (args : Array Value) (below : List Frame) (meth : Method) (c : Code) (H : Heap) (locs : List Loc) (ls : Array Slot),
    qB E Y M p s m args meth c → qHp E S s k H locs → lv_has ls M.2.2.1 lo → W p l e Y.1 s m args below meth c H locs k j (Y.2.1 below args s) (F0 m pc ls st)
/-- the standing of a method's walk -/
def qmo (E : qEv) (d n1 mc ms : Nat) (F : qPost) : qMo := (qrm d mc ms, fun below args s => MQ below (qQc E n1 F) args s mc ms (qA E), fun _ => True)
