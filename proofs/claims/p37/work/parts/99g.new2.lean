/-! ROWS: arrays of arrays; a constructor's call; a sheet put into its array -/
theorem vr_out (c : ClassId) (N h0 : Nat) : ∀ i : Nat, Jvm.Free.Multi.outerC c N h0 i = arrV c N (fun j => va_rf (if j < i then some (h0 + 1 + j) else none))
  | 0 => by
    show ({ cls := c, slots := Array.replicate N .null, vm := .none } : Cell) = _
    rw [arrV_new]
    refine congrArg (arrV c N) (funext fun j => ?_)
    simp [va_rf]
  | i + 1 => by
    show (Jvm.Free.Multi.outerC c N h0 i).setSlot i (.ref (h0 + 1 + i)) = _
    rw [vr_out c N h0 i, arrV_store]
    refine congrArg (arrV c N) (funext fun j => ?_)
    by_cases e : j = i
    · subst e
      simp [updV, va_rf]
    · by_cases h : j < i
      · simp [updV, e, h, Nat.lt_succ_of_lt h]
      · simp [updV, e, h, show ¬ j < i + 1 by omega]
/-- an array of arrays: its rows lie behind it -/
def rwR (R : qR) (a z : Nat) : qR := fun b i => if b = a ∧ 0 ≤ i ∧ i < (z : Int) then a + 1 + i.toNat else R b i
theorem rwR_in {R : qR} {a z : Nat} {i : Int} (h : 0 ≤ i ∧ i < (z : Int)) : rwR R a z a i = a + 1 + i.toNat := if_pos ⟨rfl, h⟩
theorem rwR_ne {R : qR} {a b z : Nat} {i : Int} (h : b ≠ a) : rwR R a z b i = R b i := if_neg (fun q => h q.1)
def shA (sh : qSh) (a z w : Nat) : qSh := fun b => if b = a then (2, z) else if a < b ∧ b ≤ a + z then (0, w) else sh b
section QNEW2
variable {l : Launch} {E : qEv} {Y : qMo} {M : qMD} {k j : Nat} {pc q : Nat} {lo : List (Nat × Value)} {st : List Value} {n : Nat} {sh : qSh} {I L : qI} {R : qR}
theorem wk_mna {index : Nat} {zz ww : Int} {z w : Nat} (hd : decode M.2.1 pc = .ok (.multianewarray index 2, 4)) (hq : pc + 4 = q) (hcl : Cond.classLink M.1.cls index "[[I" ∈ qtb) (hA : Cond.arrayClass .int ∈ qtb) (hz : zz = (z : Int)) (hw : ww = (w : Int)) (hz2 : z < 1000) (hw2 : w < 1000) (h0 : qZr (E.2.2 + n) I L R) (hc : k + (1 + z) ≤ Y.1.cells) (hs : j + (z + z * w) ≤ Y.1.slots)
    (h : Wk l E Y M (k + (1 + z)) (j + (z + z * w)) q lo (.ref (E.2.2 + n) :: st) (n + (1 + z), shA sh (E.2.2 + n) z w, I, L, rwR R (E.2.2 + n) z)) : Wk l E Y M k j pc lo (.int (zI ww) :: .int (zI zz) :: st) (n, sh, I, L, R) := by
  subst hq
  subst hz
  subst hw
  intro p e s m args below meth c H locs ls hB hH hlv
  refine wk_size hB.2.2.2.2.2.2.2.2.2.1 hH (fun hsz => ?_)
  have hsz' : H.size = E.2.2 + n := hsz
  have cz : (zI (z : Int)).toNatClampNeg = z := by have := zI_cl (e := (z : Int)) (by omega) (by omega); omega
  have cw : (zI (w : Int)).toNatClampNeg = w := by have := zI_cl (e := (w : Int)) (by omega) (by omega); omega
  have nz : ¬ zI (z : Int) < 0 := fun q => by rw [show (0 : Int32) = zI 0 from rfl, zI_lt (by omega) (by omega)] at q; omega
  have nw : ¬ zI (w : Int) < 0 := fun q => by rw [show (0 : Int32) = zI 0 from rfl, zI_lt (by omega) (by omega)] at q; omega
  have hb := hB.2.1
  intro T hT Xs
  obtain ⟨vm₁, cA, comp, -, fA, fC, hO, -, X', step⟩ := Xs.multianewarray2F (ty := .int) hB.1 hB.2.2.2.2.1 (hB.ts hcl) hB.K.2.2.1 (hB.ts hA) (g := F0 m pc ls (.int (zI (w : Int)) :: .int (zI (z : Int)) :: st)) rfl (by rw [hb]; exact hd) rfl nz nw (by rw [cz]; omega) (by rw [cw]; show w * 4 ≤ _; omega) (by rw [cw]; omega) rfl rfl (by rw [cz]; exact hc) (by rw [cz, cw]; exact hs)
  rw [cz, cw] at X' step
  have ec : comp = E.2.1.1 := Option.some.inj (fC.symm.trans (hB.K.1.2 0 _ rfl).2)
  have eA : cA = E.2.1.2.2.1 := Option.some.inj (fA.symm.trans (hB.K.1.2 2 _ rfl).2)
  subst ec
  subst eA
  generalize hF : Jvm.Free.Multi.fill (T.setVm vm₁) E.2.1.2.2.1 E.2.1.1 z w (defaultValue .int) z = F at X' step
  have hTh : (T.setVm vm₁).heap = H := hT
  obtain ⟨f1, f2, -, -⟩ := Jvm.Free.Multi.fill_facts (T.setVm vm₁) E.2.1.2.2.1 E.2.1.1 z w (defaultValue .int) z
  rw [hF, hTh] at f1 f2
  have hold : ∀ x : Nat, x < H.size → F.heap[x]? = H[x]? := fun x hx => by
    have := Jvm.Free.Multi.fill_old (T.setVm vm₁) E.2.1.2.2.1 E.2.1.1 z w (defaultValue .int) (a := x) (by rw [hTh]; exact hx) z
    rw [hF, hTh] at this
    exact this
  have hrow : ∀ i : Nat, i < z → F.heap[H.size + 1 + i]? = some (Jvm.Free.Multi.innerC E.2.1.1 w (defaultValue .int)) := fun i hi => by
    have := Jvm.Free.Multi.fill_inner (T.setVm vm₁) E.2.1.2.2.1 E.2.1.1 z w (defaultValue .int) z i hi
    rw [hF, hTh] at this
    exact this
  rw [vr_out] at f2
  have hH2 : qHp E (n + (1 + z), shA sh (E.2.2 + n) z w, I, L, rwR R (E.2.2 + n) z) s (k + (1 + z)) F.heap locs := by
    refine qHp_grow (S := (n, sh, I, L, R)) (g := 1 + z) rfl (fun b b0 b1 => ?_) hH hsz (fun q hq => hold q hq) (by rw [f1]; omega) (fun b b0 b1 => ?_)
    · have b1' : b < E.2.2 + n := b1
      refine qel_old ?_ (fun i => ⟨rfl, rfl, rwR_ne (by omega)⟩)
      unfold shA
      rw [if_neg (by omega), if_neg (by omega)]
    · have b0' : E.2.2 + n ≤ b := b0
      have b1' : b < E.2.2 + n + (1 + z) := b1
      by_cases hb : b = E.2.2 + n
      · subst hb
        rw [qel_r (z := z) (by unfold shA; rw [if_pos rfl])]
        show F.heap[E.2.2 + n]? = some (arrV E.2.1.2.2.1 z (fun i => va_rf (qrf (rwR R (E.2.2 + n) z (E.2.2 + n) (i : Int)))))
        rw [← hsz', f2]
        refine congrArg some (arrV_cg fun i hi => ?_)
        rw [rwR_in ⟨by omega, by omega⟩, if_pos hi, Int.toNat_natCast]
        unfold qrf
        rw [if_neg (by omega)]
      · rw [qel_i (z := w) (by unfold shA; rw [if_neg hb, if_pos ⟨by omega, by omega⟩])]
        show F.heap[b]? = some (arrV E.2.1.1 w (fun i => .int (zI (I b (i : Int)))))
        have e1 := hrow (b - (H.size + 1)) (by omega)
        rw [show H.size + 1 + (b - (H.size + 1)) = b by omega] at e1
        rw [e1]
        show some ({ cls := E.2.1.1, slots := Array.replicate w (defaultValue .int), vm := .none } : Cell) = _
        rw [arrV_new]
        refine congrArg some (arrV_cg fun i hi => ?_)
        rw [(h0 b _ (by omega)).1]
        rfl
  have hwk := h p e s m args below meth c F.heap locs ls hB hH2 hlv
  obtain ⟨t, a1, b1⟩ := hwk F rfl (by
    rw [show k + (1 + z) = k + 1 + z by omega, show j + (z + z * w) = j + z + z * w by omega]
    exact X')
  refine ⟨t, step t ?_, b1⟩
  have hTh2 : T.heap.size = E.2.2 + n := by rw [← hsz', ← hT]
  rw [hTh2]
  exact a1
/-- a constructor is called: of a nest mate's class; by the tables -/
theorem wk_inN {index d a mc ms : Nat} {host : String} {Mc : qMD} {F : qPost} {S : qS} (hd : decode M.2.1 pc = .ok (.invokespecial index, 3)) (hq : pc + 3 = q) (hM : qMok Mc) (hl : Cond.methodLinkNest M.1.cls index Mc.1 host ∈ qnest) (hin : Cond.instanceMethod Mc.1 ∈ qtb) (hini : Mc.1.name = "<init>") (hret : Mc.2.2.2 = none) (hdesc : (parseMethodDescriptor Mc.1.desc).map (fun d => d.parameters.length) = some 0)
    (hC : Ct l E d Mc [.ref a] S mc ms F) (hro : qRo Y Mc d k j mc ms) (hw : (st.map fun v => v.category).sum ≤ 8)
    (kk : ∀ r S', F r S' → S'.1 = S.1 + mc → Wk l E Y M (k + mc) (j + ms) q lo (qpush r st) S') : Wk l E Y M k j pc lo (.ref a :: st) S := by
  subst hq
  intro p e s m args below meth c H locs ls hB hH hlv
  refine wk_size hB.2.2.2.2.2.2.2.2.2.1 hH (fun hsz => ?_)
  have cw : va_CN Y.1 s args M.1.cls index Mc.1 host Mc.2.1 Mc.2.2.1 none (qwl Mc) (qrm d mc ms) mc ms 0 :=
    va_cnB 0 hB.2.2.2.2.2.2.1 (qwl_good Mc hM M) (ws' := qtb) (by unfold qwl; rw [hret]) rfl rfl (hB.K.2.1 _ hl) (hB.ts hM.2.1) ⟨hM.2.2.2.1.1, hM.2.2.2.1.2, hdesc⟩ ⟨hro.1, hro.2.1⟩
  exact wk_back (st := st) hB hH hlv rfl (va_runIN (As := []) (rest := st) ⟨hB.1, hB.2.1, hB.2.2.1, hB.2.2.2.2.1, hB.2.2.2.2.2.2.1⟩ hC ⟨cw, hini, hB.ts hin⟩ ⟨qblind, fun U hU hW => ⟨rfl, ⟨by rw [hU]; exact hsz, by rw [hU]; exact hH.2.1⟩, hB.K.warm hW⟩⟩ rfl rfl hlv.1 rfl (lv_room hw) hd ⟨hro.2.2.1, hro.2.2.2⟩) kk
theorem wk_inI {index d a mc ms : Nat} {Mc : qMD} {F : qPost} {S : qS} (hd : decode M.2.1 pc = .ok (.invokespecial index, 3)) (hq : pc + 3 = q) (hM : qMok Mc) (hl : Cond.methodLink M.1.cls index Mc.1 ∈ qtb) (hin : Cond.instanceMethod Mc.1 ∈ qtb) (hini : Mc.1.name = "<init>") (hret : Mc.2.2.2 = none) (hdesc : (parseMethodDescriptor Mc.1.desc).map (fun d => d.parameters.length) = some 0)
    (hC : Ct l E d Mc [.ref a] S mc ms F) (hro : qRo Y Mc d k j mc ms) (hw : (st.map fun v => v.category).sum ≤ 8)
    (kk : ∀ r S', F r S' → S'.1 = S.1 + mc → Wk l E Y M (k + mc) (j + ms) q lo (qpush r st) S') : Wk l E Y M k j pc lo (.ref a :: st) S := by
  subst hq
  intro p e s m args below meth c H locs ls hB hH hlv
  refine wk_size hB.2.2.2.2.2.2.2.2.2.1 hH (fun hsz => ?_)
  have cw : CallB Y.1 s args M.1.cls index Mc.1 Mc.2.1 Mc.2.2.1 none (qwl Mc) (qrm d mc ms) mc ms 0 ∧ Mc.1.name = "<init>" ∧ (Cond.instanceMethod Mc.1).before args s = true :=
    cwI 0 hB.2.2.2.2.2.2.1 (qwl_good Mc hM M) (ws' := qtb) (by unfold qwl; rw [hret]) rfl rfl (hB.ts hM.2.1) (hB.ts hl) (hB.ts hin) hini ⟨hM.2.2.2.1.1, hM.2.2.2.1.2, hdesc⟩ ⟨hro.1, hro.2.1⟩
  exact wk_back (st := st) hB hH hlv rfl (va_runI (As := []) (rest := st) ⟨hB.1, hB.2.1, hB.2.2.1, hB.2.2.2.2.1, hB.2.2.2.2.2.2.1⟩ hC cw ⟨qblind, fun U hU hW => ⟨rfl, ⟨by rw [hU]; exact hsz, by rw [hU]; exact hH.2.1⟩, hB.K.warm hW⟩⟩ rfl rfl hlv.1 rfl (lv_room hw) hd ⟨hro.2.2.1, hro.2.2.2⟩) kk
theorem wk_astS {a r z : Nat} {i : Int} (hd : decode M.2.1 pc = .ok (.aastore, 1)) (hq : pc + 1 = q) (hs : isC E.2.2 n sh a 3 z) (hr : isC E.2.2 n sh r 7 0) (hr0 : r ≠ 0) (hi : 0 ≤ i ∧ i < (z : Int))
    (h : Wk l E Y M k j q lo st (n, sh, I, L, up R a i r)) : Wk l E Y M k j pc lo (.ref r :: .int (zI i) :: .ref a :: st) (n, sh, I, L, R) := by
  subst hq
  have h31 : i < 2147483648 := by have := hs.2.2.2; omega
  intro p e s m args below meth c H locs ls hB hH hlv
  have he := qws_at (E := E) (S := (n, sh, I, L, R)) (isC.ad hs)
  rw [qel_s hs.2.2.1] at he
  have hv := qws_at (E := E) (S := (n, sh, I, L, R)) (isC.ad hr)
  rw [qel_o (c := 3) hr.2.2.1] at hv
  have hset : (qws E (n, sh, I, L, R)).set (a - E.2.2) (a, .inl (E.2.1.2.2.2, z, .inr (.inr (.inr (.inr (va_up (fun g : Nat => qrf (R a g)) (zI i).toNatClampNeg (some r))))))) = qws E (n, sh, I, L, up R a i r) := by
    refine qws_set (isC.ad hs) rfl ?_ (fun b hb => qel_same (fun _ => rfl) (fun _ => rfl) (fun g => up_b R a i r b g hb))
    rw [qel_s hs.2.2.1]
    refine congrArg (fun f => Sum.inl (E.2.1.2.2.2, z, Sum.inr (Sum.inr (Sum.inr (Sum.inr f))))) (funext fun g => ?_)
    have hc := zI_cl hi.1 h31
    by_cases e : g = (zI i).toNatClampNeg
    · rw [show va_up (fun g : Nat => qrf (R a g)) (zI i).toNatClampNeg (some r) g = some r from if_pos e, e, hc, up_eq]
      unfold qrf
      rw [if_neg hr0]
    · rw [show va_up (fun g : Nat => qrf (R a g)) (zI i).toNatClampNeg (some r) g = qrf (R a g) from if_neg e, up_ni _ _ (by omega)]
  refine va_astq (r := (RX3, TX3, 4)) hB.1 hB.2.1 hB.K.1 hH.2.1 (qD E _ (qA E) (fun _ h => h)) hH.2.2 (a - E.2.2) 3 (r - E.2.2) 3 he rfl hv rfl (zI_vp hi h31) hd (fun H1 locs1 hP1 _ hS1 => ?_)
  rw [hset] at hP1
  exact h p e s m args below meth c H1 locs1 ls hB ⟨hH.1, hP1, hS1⟩ hlv
end QNEW2
