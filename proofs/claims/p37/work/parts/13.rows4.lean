/-! ROWS: a method's start and end, calls -/
theorem qwl_good (M : qMD) (hM : qMok M) (M' : qMD) : GoodIn (qwl M') (qwl M) := by
  intro w hw
  rcases List.mem_cons.mp hw with rfl | hw
  · exact ⟨List.mem_cons_of_mem _ hM.1, Or.inl rfl⟩
  · exact ⟨List.mem_cons_of_mem _ hw, good_of_word (qtb_good hw)⟩
section QR4
variable {l : Launch} {E : qEv} {Y : qMo} {M : qMD} {k j : Nat} {pc q : Nat} {lo : List (Nat × Value)} {st : List Value} {S : qS}
theorem arrayOver_mv {ty : FieldType} {s U : State} (hW : s.vm.Alike U.vm) (h : (Cond.arrayOver ty).before #[] s = true) : (Cond.arrayOver ty).before #[] U = true := by
  have h1 : (Cond.arrayOver ty).before #[] (s.setVm U.vm) = true := by rw [Cond.arrayOver_setVmC hW]; exact h
  first
    | exact h1
    | (cases ty <;> exact h1)
    | (simp only [Cond.before, Cond.holds, Cond.value] at h1 ⊢; exact h1)
theorem qKs.warm {s U : State} (hW : s.WarmedH U.vm) (h : qKs E s) : qKs E U := by
  refine ⟨va_K.moved hW.alike h.1, fun w hw => ?_, arrayOver_mv hW.alike h.2.2.1, arrayOver_mv hW.alike h.2.2.2⟩
  have h1 := h.2.1 w hw
  unfold qnest at hw
  simp only [List.mem_cons, List.not_mem_nil, or_false] at hw
  rcases hw with rfl | rfl | rfl | rfl | rfl | rfl | rfl <;> exact va_Nw.warmM hW h1
theorem qKs.same {s U : State} (hv : s.vm = U.vm) (h : qKs E s) : qKs E U := by
  refine ⟨va_K.moved (by rw [hv]; exact Vm.Alike.refl _) h.1, fun w hw => ?_, arrayOver_mv (by rw [hv]; exact Vm.Alike.refl _) h.2.2.1, arrayOver_mv (by rw [hv]; exact Vm.Alike.refl _) h.2.2.2⟩
  have h1 := h.2.1 w hw
  unfold qnest at hw
  simp only [List.mem_cons, List.not_mem_nil, or_false] at hw
  rcases hw with rfl | rfl | rfl | rfl | rfl | rfl | rfl <;> exact va_Nw.same rfl hv h1
theorem qblind {as : List Value} : FrameBlind (va_Pc as (fun U => qAt E S U ∧ qKs E U)) := fun a U g mk h => ⟨h.1, h.2.1, qKs.same (s := U) (U := U.calling g mk a) rfl h.2.2⟩
/-- a method's contract, by its walk -/
theorem Ct.of {d mc ms : Nat} {as : List Value} {F : qPost} {lo : List (Nat × Value)} (hM : qMok M) (hlen : (lg_sl as).length ≤ M.2.2.1) (hlo : lv_args 0 as = lo) (h : Wk l E (qmo E d (S.1 + mc) mc ms F) M 0 0 0 lo [] S) : Ct l E d M as S mc ms F := by
  subst hlo
  refine Met.ofW (cc := M.2.1) (maxL := M.2.2.1) (ret := M.2.2.2) (ws' := qtb) hM.2.2.1 rfl ?_
  intro p e s m args below meth c s₁ B hml hv
  obtain ⟨rfl, ⟨hsz, hP⟩, hK⟩ := hv
  have hl := lv_entry as (n := M.2.2.1) hlen
  rw [lg_entry_eq]
  exact h p e s m as.toArray below meth c s.heap [] _ ⟨B.exec, B.bytes, hml, B.returns, findClass_of_methodNamed B.named, B.notSynchronized, atoms_spec (ws := qwl M) B.pre, (name_of_methodNamed B.named B.method).1, hK, by omega, trivial⟩ ⟨by rw [hsz]; rfl, hP, va_S.rf⟩ hl
theorem qmo_end {d n1 mc ms : Nat} {F : qPost} {p : Program} {e : Env} {s : State} {m : MethodId} {args : Array Value} {below : List Frame} {meth : Method} {c : Code} {H : Heap} {locs : List Loc} (hH : qHp E S s k H locs) {r : Option Value} (hF : F r S) (hn : S.1 = n1) : ∀ t : State, t.heap = H → s.WarmedH t.vm → qQc E n1 F args s (.returned r) t :=
  fun t ht _ => ⟨⟨r, S, rfl, hn, hF, by rw [ht]; exact hH.2.1⟩, hH.2.2.F ht⟩
theorem wk_ret {d n1 mc ms : Nat} {F : qPost} (hd : decode M.2.1 pc = .ok (.return_, 1)) (hr : M.2.2.2 = none) (hk : k ≤ mc ∧ j ≤ ms) (hn : S.1 = n1) (hF : F none S) : Wk l E (qmo E d n1 mc ms F) M k j pc lo [] S := by
  intro p e s m args below meth c H locs ls hB hH hl
  exact W.widen hk.1 hk.2 (W.vret hB.1 hB.2.1 (hB.2.2.2.1.trans hr) (qmo_end (d := d) (mc := mc) (ms := ms) (e := e) (p := p) (m := m) (below := below) (meth := meth) (c := c) hH hF hn) (fun q hq => hH.2.2.2.2 q hq) hd hB.2.2.2.2.2.1)
theorem wk_iret {d n1 mc ms : Nat} {F : qPost} {v : Int} (hd : decode M.2.1 pc = .ok (.ireturn, 1)) (hr : M.2.2.2 = some .int) (hk : k ≤ mc ∧ j ≤ ms) (hn : S.1 = n1) (hF : F (some (.int (zI v))) S) : Wk l E (qmo E d n1 mc ms F) M k j pc lo [.int (zI v)] S := by
  intro p e s m args below meth c H locs ls hB hH hl
  exact W.widen hk.1 hk.2 (W.iret hB.1 hB.2.1 (hB.2.2.2.1.trans hr) (qmo_end (d := d) (mc := mc) (ms := ms) (e := e) (p := p) (m := m) (below := below) (meth := meth) (c := c) hH hF hn) (fun q hq => hH.2.2.2.2 q hq) hd hB.2.2.2.2.2.1)
theorem wk_zret {d n1 mc ms : Nat} {F : qPost} {v : Int} (hd : decode M.2.1 pc = .ok (.ireturn, 1)) (hr : M.2.2.2 = some .boolean) (hv : v = 0 ∨ v = 1) (hk : k ≤ mc ∧ j ≤ ms) (hn : S.1 = n1) (hF : F (some (.int (zI v))) S) : Wk l E (qmo E d n1 mc ms F) M k j pc lo [.int (zI v)] S := by
  intro p e s m args below meth c H locs ls hB hH hl
  exact W.widen hk.1 hk.2 (W.zret hB.1 hB.2.1 (hB.2.2.2.1.trans hr) (zI_bit hv).1 (qmo_end (d := d) (mc := mc) (ms := ms) (e := e) (p := p) (m := m) (below := below) (meth := meth) (c := c) hH hF hn) (fun q hq => hH.2.2.2.2 q hq) hd hB.2.2.2.2.2.1)
theorem wk_lret {d n1 mc ms : Nat} {F : qPost} {v : Int} (hd : decode M.2.1 pc = .ok (.lreturn, 1)) (hr : M.2.2.2 = some .long) (hk : k ≤ mc ∧ j ≤ ms) (hn : S.1 = n1) (hF : F (some (.long (zL v))) S) : Wk l E (qmo E d n1 mc ms F) M k j pc lo [.long (zL v)] S := by
  intro p e s m args below meth c H locs ls hB hH hl
  exact W.widen hk.1 hk.2 (W.lret hB.1 hB.2.1 (hB.2.2.2.1.trans hr) (qmo_end (d := d) (mc := mc) (ms := ms) (e := e) (p := p) (m := m) (below := below) (meth := meth) (c := c) hH hF hn) (fun q hq => hH.2.2.2.2 q hq) hd hB.2.2.2.2.2.1)
/-- how many cells there are is known -/
theorem wk_size {p : Program} {e : Env} {R : Room} {s : State} {m : MethodId} {args : Array Value} {below : List Frame} {meth : Method} {c : Code} {H : Heap} {locs : List Loc} {Q : State → Prop} {g : JFrame} (hbs : E.2.2 ≤ s.heap.size) (hH : qHp E S s k H locs)
    (h : H.size = E.2.2 + S.1 → W p l e R s m args below meth c H locs k j Q g) : W p l e R s m args below meth c H locs k j Q g := by
  intro T hT X
  have h1 := X.heapSize
  rw [hT] at h1
  have h2 := hH.1
  have h3 : E.2.2 + S.1 ≤ H.size := by
    by_cases h0 : S.1 = 0
    · have := hH.2.2.1
      omega
    · have h4 := qws_at (E := E) (S := S) (a := E.2.2 + (S.1 - 1)) ⟨by omega, by omega⟩
      have h5 := (hH.2.1 _ _ h4).lt
      have h6 : E.2.2 + (S.1 - 1) < H.size := h5
      omega
  exact h (by omega) T hT X
/-- the room that a call wants -/
def qRo (Y : qMo) (Mc : qMD) (d k j mc ms : Nat) : Prop := d + 1 ≤ Y.1.frames ∧ 8 + (Mc.2.2.1 + 11) + 42 * d ≤ Y.1.locals ∧ k + mc ≤ Y.1.cells ∧ j + ms ≤ Y.1.slots
theorem qRo_m {Mc : qMD} {d d' n1 k j mc ms mc' ms' : Nat} {F : qPost} (hM : qMok Mc) (hd : d + 1 ≤ d') (hk : k + mc ≤ mc') (hj : j + ms ≤ ms') : qRo (qmo E d' n1 mc' ms' F) Mc d k j mc ms := by
  have h := hM.2.2.2.2
  refine ⟨hd, ?_, hk, hj⟩
  show _ ≤ 42 * d'
  omega
/-- behind a call: what came back -/
def qpush (r : Option Value) (st : List Value) : List Value := r.toList ++ st
theorem wk_back {mc ms : Nat} {F : qPost} {p : Program} {e : Env} {s : State} {m : MethodId} {args : Array Value} {below : List Frame} {meth : Method} {c : Code} {H : Heap} {locs : List Loc} {ls : Array Slot} {g : JFrame} {a : Array Value}
    (hB : qB E Y M p s m args meth c) (hH : qHp E S s k H locs) (hl : lv_has ls M.2.2.1 lo) (hg : g = F0 m pc ls g.stack)
    (hr : va_Run p l e Y.1 s m args below meth c H locs k j mc ms g st (qQc E (S.1 + mc) F a) (qA E))
    (kk : ∀ r S', F r S' → S'.1 = S.1 + mc → Wk l E Y M (k + mc) (j + ms) (pc + 3) lo (qpush r st) S') : W p l e Y.1 s m args below meth c H locs k j (Y.2.1 below args s) g := by
  intro T hT X
  obtain ⟨v, st₀, t, T', L', h0, X', hL, e1, e2, ⟨⟨r, S', hv, hn, hF, hP'⟩, hz, hk'⟩, stp⟩ := hr T hT X
  cases hv
  rw [h0] at hz hk'
  have hW := kk v S' hF hn p e s m args below meth c T'.heap (locs ++ L') ls hB ⟨by have := hH.1; omega, by rw [e1]; exact hP', Nat.le_trans hH.2.2.1 (by rw [e1]; exact hz), fun q h1 h2 => by rw [e1, hk' q (Nat.lt_of_lt_of_le h1 hH.2.2.1) h2]; exact hH.2.2.2.1 q h1 h2, fun q hq => by
      rcases List.mem_append.mp hq with h | h
      · exact hH.2.2.2.2 q h
      · exact hL q h⟩ hl
  rw [hg] at stp ⊢
  obtain ⟨t2, a1, b1⟩ := hW T' rfl X'
  exact ⟨t2, stp t2 a1, b1⟩
theorem wk_inv {index cnt d a mc ms c4 z : Nat} {Mc : qMD} {As : List Value} {F : qPost} (hd : decode M.2.1 pc = .ok (.invokevirtual index, 3)) (hq : pc + 3 = q) (hl : qVL M.1.cls index Mc cnt) (hcnt : As.length = cnt)
    (hcls : ∃ T N, vwCl[c4]? = some (Mc.1.cls, T, N)) (hs : isC E.2.2 S.1 S.2.1 a (c4 + 4) z) (hC : Ct l E d Mc (.ref a :: As) S mc ms F) (hro : qRo Y Mc d k j mc ms) (hw : (st.map fun v => v.category).sum ≤ 8)
    (kk : ∀ r S', F r S' → S'.1 = S.1 + mc → Wk l E Y M (k + mc) (j + ms) q lo (qpush r st) S') : Wk l E Y M k j pc lo (As.reverse ++ .ref a :: st) S := by
  subst hq
  obtain ⟨hM, hml, hin, hsel, hdesc⟩ := hl
  intro p e s m args below meth c H locs ls hB hH hlv
  refine wk_size hB.2.2.2.2.2.2.2.2.2.1 hH (fun hsz => ?_)
  obtain ⟨TC, NC, hcl⟩ := hcls
  have hb0 := hB.1
  have hgood : GoodIn (qwl M) (wsV M.1.cls index Mc.1.cls Mc.1 (qwl Mc)) := by
    intro w hw
    unfold wsV at hw
    rcases List.mem_append.mp hw with h | h
    · simp only [List.mem_cons, List.not_mem_nil, or_false] at h
      rcases h with rfl | rfl | rfl | rfl
      · exact ⟨List.mem_cons_of_mem _ hml, good_of_word (qtb_good hml)⟩
      · exact ⟨List.mem_cons_of_mem _ hin, good_of_word (qtb_good hin)⟩
      · exact ⟨List.mem_cons_of_mem _ hsel, good_of_word (qtb_good hsel)⟩
      · exact ⟨List.mem_cons_of_mem _ hM.2.1, good_of_word (qtb_good hM.2.1)⟩
    · exact qwl_good Mc hM M w h
  have cw : CallW Y.1 s args M.1.cls Mc.1.cls index Mc.1 Mc.2.1 Mc.2.2.1 Mc.2.2.2 (qwl Mc) (qrm d mc ms) mc ms cnt :=
    cwV cnt hB.2.2.2.2.2.2.1 hgood rfl rfl rfl ⟨rfl, hM.2.2.2.1.1, hM.2.2.2.1.2, hdesc⟩ ⟨hro.1, hro.2.1⟩
  have he := qws_at (E := E) (S := S) (a := a) ⟨hs.1, hs.2.1⟩
  obtain ⟨n0, sh0, I0, L0, R0⟩ := S
  rw [qel_o hs.2.2.1] at he
  have hrecv := va_recv hB.K.1 hH.2.1 hcl he
  refine wk_back (st := st) hB hH hlv rfl (va_runV (As := As) (rest := st) ⟨hB.1, hB.2.1, hB.2.2.1, hB.2.2.2.2.1, hB.2.2.2.2.2.2.1⟩ hC cw ⟨qblind, hrecv, fun U hU hW => ⟨rfl, ⟨by rw [hU]; exact hsz, by rw [hU]; exact hH.2.1⟩, hB.K.warm hW⟩⟩ rfl hcnt hlv.1 rfl (lv_room hw) hd ⟨hro.2.2.1, hro.2.2.2⟩) kk
theorem wk_ins {index cnt d mc ms : Nat} {Mc : qMD} {As : List Value} {F : qPost} (hd : decode M.2.1 pc = .ok (.invokestatic index, 3)) (hq : pc + 3 = q) (hl : qSL M.1.cls index Mc cnt) (hcnt : As.length = cnt)
    (hC : Ct l E d Mc As S mc ms F) (hro : qRo Y Mc d k j mc ms) (hw : (st.map fun v => v.category).sum ≤ 8)
    (kk : ∀ r S', F r S' → S'.1 = S.1 + mc → Wk l E Y M (k + mc) (j + ms) q lo (qpush r st) S') : Wk l E Y M k j pc lo (As.reverse ++ st) S := by
  subst hq
  obtain ⟨hM, hml, hstat, hdesc⟩ := hl
  intro p e s m args below meth c H locs ls hB hH hlv
  refine wk_size hB.2.2.2.2.2.2.2.2.2.1 hH (fun hsz => ?_)
  have cw : CallB Y.1 s args M.1.cls index Mc.1 Mc.2.1 Mc.2.2.1 Mc.2.2.2 (qwl Mc) (qrm d mc ms) mc ms cnt ∧ (Cond.static Mc.1).before args s = true :=
    ⟨callB_of cnt hB.2.2.2.2.2.2.1 (qwl_good Mc hM M) rfl rfl rfl (hB.ts hM.2.1) (hB.ts hml) ⟨hM.2.2.2.1.1, hM.2.2.2.1.2, hdesc⟩ ⟨hro.1, hro.2.1⟩, hB.ts hstat⟩
  refine wk_back (st := st) hB hH hlv rfl (va_runS (As := As) (rest := st) ⟨hB.1, hB.2.1, hB.2.2.1, hB.2.2.2.2.1, hB.2.2.2.2.2.2.1⟩ hC cw ⟨qblind, fun U hU hW => ⟨rfl, ⟨by rw [hU]; exact hsz, by rw [hU]; exact hH.2.1⟩, hB.K.warm hW⟩⟩ rfl hcnt hlv.1 rfl (lv_room hw) hd ⟨hro.2.2.1, hro.2.2.2⟩) kk
end QR4
