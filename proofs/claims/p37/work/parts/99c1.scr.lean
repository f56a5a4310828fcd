/-! ROWS: constants, shifts; a method that reads the script; a new array -/
theorem zAnd_nn (a : Int) : 0 ≤ zAnd a 2147483647 ∧ zAnd a 2147483647 < 2147483648 := by
  refine ⟨?_, (zI_in _).2⟩
  unfold zAnd
  show 0 ≤ ((zI a).toBitVec &&& (zI 2147483647).toBitVec).toInt
  have h : ((zI a).toBitVec &&& (zI 2147483647).toBitVec).msb = false := by
    rw [BitVec.msb_and, show (zI 2147483647).toBitVec.msb = false by decide +kernel, Bool.and_false]
  rw [BitVec.toInt_eq_toNat_of_msb h]
  omega
def zShr (a b : Int) : Int := (zI a >>> (zI b &&& 31)).toInt
theorem zShr_in (a b : Int) : in32 (zShr a b) := zI_in _
theorem isC.grow {b n n' : Nat} {sh sh' : qSh} {a kd z : Nat} (h : isC b n sh a kd z) (hn : n ≤ n') (hs : ∀ c, c < b + n → sh' c = sh c) : isC b n' sh' a kd z := ⟨h.1, by have := h.2.1; omega, (hs a h.2.1).trans h.2.2.1, h.2.2.2⟩
section SCR
variable {l : Launch} {E : qEv} {Y : qMo} {M : qMD} {k j : Nat} {pc q : Nat} {lo : List (Nat × Value)} {st : List Value} {S : qS}
theorem wk_ishr {a b : Int} (hd : decode M.2.1 pc = .ok (.ishr, 1)) (hq : pc + 1 = q) (h : Wk l E Y M k j q lo (.int (zI (zShr a b)) :: st) S) : Wk l E Y M k j pc lo (.int (zI b) :: .int (zI a) :: st) S := by
  subst hq
  intro p e s m args below meth c H locs ls hB hH hl
  refine lv_ishr hB.1 hB.2.1 hd ?_
  rw [← zI_of (zI a >>> (zI b &&& 31))]
  exact h p e s m args below meth c H locs ls hB hH hl
theorem wk_ldc {index : Nat} {z : Int} {v : Int32} (hd : decode M.2.1 pc = .ok (.ldc index, 2)) (hq : pc + 2 = q) (hw : Cond.constant M.1.cls index v ∈ qtb) (hz : v = zI z) (h : Wk l E Y M k j q lo (.int (zI z) :: st) S) : Wk l E Y M k j pc lo st S := by
  subst hq
  subst hz
  intro p e s m args below meth c H locs ls hB hH hl
  exact lv_ldc hB.1 hB.2.1 hB.2.2.2.2.1 (hB.2.2.2.2.2.2.1 _ (List.mem_cons_of_mem _ hw)) hd (h p e s m args below meth c H locs ls hB hH hl)
/-- what is known of the script -/
def scK (E : qEv) (b N : Nat) (xs : Nat → Int32) (s : State) : Prop := va_X b N xs s s.heap ∧ b < E.2.2
def sc (xs : Nat → Int32) (i : Int) : Int := (xs i.toNat).toInt
theorem sc_in {xs : Nat → Int32} (i : Int) : in32 (sc xs i) := zI_in _
theorem wk_sldS {b N : Nat} {xs : Nat → Int32} {i : Int} (hd : decode M.2.1 pc = .ok (.iaload, 1)) (hq : pc + 1 = q) (hY : ∀ s, Y.2.2 s → scK E b N xs s) (hi : 0 ≤ i ∧ i < (N : Int)) (hL : N ≤ 3072) (h : Wk l E Y M k j q lo (.int (zI (sc xs i)) :: st) S) : Wk l E Y M k j pc lo (.int (zI i) :: .ref b :: st) S := by
  subst hq
  intro p e s m args below meth c H locs ls hB hH hl
  obtain ⟨hX, hb1⟩ := hY s hB.2.2.2.2.2.2.2.2.2.2
  have hb2 := hB.2.2.2.2.2.2.2.2.2.1
  refine va_sld (A := qA E) hB.1 hB.2.1 hX (by omega) (by show ¬ (E.2.2 ≤ b); omega) hH.2.2 (zI_vp hi (by omega)) hd ?_
  have e1 := zI_cl (e := i) hi.1 (by omega)
  have e2 : (zI i).toNatClampNeg = i.toNat := by omega
  rw [e2, ← zI_of (xs i.toNat)]
  exact h p e s m args below meth c H locs ls hB hH hl
theorem wk_slenS {b N : Nat} {xs : Nat → Int32} (hd : decode M.2.1 pc = .ok (.arraylength, 1)) (hq : pc + 1 = q) (hY : ∀ s, Y.2.2 s → scK E b N xs s) (h : Wk l E Y M k j q lo (.int (zI N) :: st) S) : Wk l E Y M k j pc lo (.ref b :: st) S := by
  subst hq
  intro p e s m args below meth c H locs ls hB hH hl
  obtain ⟨hX, hb1⟩ := hY s hB.2.2.2.2.2.2.2.2.2.2
  have hb2 := hB.2.2.2.2.2.2.2.2.2.1
  exact va_slen (A := qA E) hB.1 hB.2.1 hX (by omega) (by show ¬ (E.2.2 ≤ b); omega) hH.2.2 hd (h p e s m args below meth c H locs ls hB hH hl)
/-- a contract of a method that knows the script -/
def CtS (l : Launch) (E : qEv) (d : Nat) (M : qMD) (as : List Value) (S : qS) (mc ms : Nat) (F : qPost) (b N : Nat) (xs : Nat → Int32) : Prop :=
  Met l M.1 (qwl M) (qrm d mc ms) (va_Pc as (fun U => (qAt E S U ∧ qKs E U) ∧ scK E b N xs U)) (qQc E (S.1 + mc) F) mc ms (qA E)
def qmoS (E : qEv) (d n1 mc ms : Nat) (F : qPost) (b N : Nat) (xs : Nat → Int32) : qMo := (qrm d mc ms, fun below args s => MQ below (qQc E n1 F) args s mc ms (qA E), fun s => scK E b N xs s)
theorem qblindS {as : List Value} {b N : Nat} {xs : Nat → Int32} : FrameBlind (va_Pc as (fun U => (qAt E S U ∧ qKs E U) ∧ scK E b N xs U)) := fun a U g mk h => ⟨h.1, ⟨h.2.1.1, qKs.same (s := U) (U := U.calling g mk a) rfl h.2.1.2⟩, va_X.moved (u := U) (U := U.calling g mk a) (Vm.Alike.refl _) h.2.2.1, h.2.2.2⟩
theorem CtS.of {d mc ms : Nat} {as : List Value} {F : qPost} {lo : List (Nat × Value)} {b N : Nat} {xs : Nat → Int32} (hM : qMok M) (hlen : (lg_sl as).length ≤ M.2.2.1) (hlo : lv_args 0 as = lo) (h : Wk l E (qmoS E d (S.1 + mc) mc ms F b N xs) M 0 0 0 lo [] S) : CtS l E d M as S mc ms F b N xs := by
  subst hlo
  refine Met.ofW (cc := M.2.1) (maxL := M.2.2.1) (ret := M.2.2.2) (ws' := qtb) hM.2.2.1 rfl ?_
  intro p e s m args below meth c s₁ B hml hv
  obtain ⟨rfl, ⟨⟨hsz, hP⟩, hK⟩, hX⟩ := hv
  have hl := lv_entry as (n := M.2.2.1) hlen
  rw [lg_entry_eq]
  exact h p e s m as.toArray below meth c s.heap [] _ ⟨B.exec, B.bytes, hml, B.returns, findClass_of_methodNamed B.named, B.notSynchronized, atoms_spec (ws := qwl M) B.pre, (name_of_methodNamed B.named B.method).1, hK, by omega, hX⟩ ⟨by rw [hsz]; rfl, hP, va_S.rf⟩ hl
theorem wk_iretS {d n1 mc ms : Nat} {F : qPost} {v : Int} {b N : Nat} {xs : Nat → Int32} (hd : decode M.2.1 pc = .ok (.ireturn, 1)) (hr : M.2.2.2 = some .int) (hk : k ≤ mc ∧ j ≤ ms) (hn : S.1 = n1) (hF : F (some (.int (zI v))) S) : Wk l E (qmoS E d n1 mc ms F b N xs) M k j pc lo [.int (zI v)] S := by
  intro p e s m args below meth c H locs ls hB hH hl
  exact W.widen hk.1 hk.2 (W.iret hB.1 hB.2.1 (hB.2.2.2.1.trans hr) (qmo_end (d := d) (mc := mc) (ms := ms) (e := e) (p := p) (m := m) (below := below) (meth := meth) (c := c) hH hF hn) (fun q hq => hH.2.2.2.2 q hq) hd hB.2.2.2.2.2.1)
theorem qRo_mS {Mc : qMD} {d d' n1 k j mc ms mc' ms' : Nat} {F : qPost} {b N : Nat} {xs : Nat → Int32} (hM : qMok Mc) (hd : d + 1 ≤ d') (hk : k + mc ≤ mc') (hj : j + ms ≤ ms') : qRo (qmoS E d' n1 mc' ms' F b N xs) Mc d k j mc ms := by
  have h := hM.2.2.2.2
  refine ⟨hd, ?_, hk, hj⟩
  show _ ≤ 42 * d'
  omega
theorem wk_insS {index cnt d mc ms : Nat} {Mc : qMD} {As : List Value} {F : qPost} {b N : Nat} {xs : Nat → Int32} (hd : decode M.2.1 pc = .ok (.invokestatic index, 3)) (hq : pc + 3 = q) (hl : qSL M.1.cls index Mc cnt) (hcnt : As.length = cnt) (hY : ∀ s, Y.2.2 s → scK E b N xs s)
    (hC : CtS l E d Mc As S mc ms F b N xs) (hro : qRo Y Mc d k j mc ms) (hw : (st.map fun v => v.category).sum ≤ 8)
    (kk : ∀ r S', F r S' → S'.1 = S.1 + mc → Wk l E Y M (k + mc) (j + ms) q lo (qpush r st) S') : Wk l E Y M k j pc lo (As.reverse ++ st) S := by
  subst hq
  obtain ⟨hM, hml, hstat, hdesc⟩ := hl
  intro p e s m args below meth c H locs ls hB hH hlv
  refine wk_size hB.2.2.2.2.2.2.2.2.2.1 hH (fun hsz => ?_)
  obtain ⟨hX, hb1⟩ := hY s hB.2.2.2.2.2.2.2.2.2.2
  have hb2 := hB.2.2.2.2.2.2.2.2.2.1
  have cw : CallB Y.1 s args M.1.cls index Mc.1 Mc.2.1 Mc.2.2.1 Mc.2.2.2 (qwl Mc) (qrm d mc ms) mc ms cnt ∧ (Cond.static Mc.1).before args s = true :=
    ⟨callB_of cnt hB.2.2.2.2.2.2.1 (qwl_good Mc hM M) rfl rfl rfl (hB.ts hM.2.1) (hB.ts hml) ⟨hM.2.2.2.1.1, hM.2.2.2.1.2, hdesc⟩ ⟨hro.1, hro.2.1⟩, hB.ts hstat⟩
  refine wk_back (st := st) hB hH hlv rfl (va_runS (As := As) (rest := st) ⟨hB.1, hB.2.1, hB.2.2.1, hB.2.2.2.2.1, hB.2.2.2.2.2.2.1⟩ hC cw ⟨qblindS, fun U hU hW => ⟨rfl, ⟨⟨by rw [hU]; exact hsz, by rw [hU]; exact hH.2.1⟩, hB.K.warm hW⟩, va_X.kept (va_X.moved hW.alike hX) (by rw [hU]; exact hH.2.2.2.1 b (by omega) (by show ¬ (E.2.2 ≤ b); omega)), hb1⟩⟩ rfl hcnt hlv.1 rfl (lv_room hw) hd ⟨hro.2.2.1, hro.2.2.2⟩) kk
theorem wk_sQ2 {index d b N : Nat} {xs : Nat → Int32} {Mc : qMD} {v1 v2 : Value} {n : Nat} {sh : qSh} {I L : qI} {R : qR} {P : Int → Prop} (hd : decode M.2.1 pc = .ok (.invokestatic index, 3)) (hq : pc + 3 = q) (hl : qSL M.1.cls index Mc 2) (hY : ∀ s, Y.2.2 s → scK E b N xs s)
    (hC : CtS l E d Mc [v1, v2] (n, sh, I, L, R) 0 0 (qP n sh I L R P) b N xs) (hro : qRo Y Mc d k j 0 0) (hw : (st.map fun v => v.category).sum ≤ 8) (kk : ∀ v, P v → Wk l E Y M k j q lo (.int (zI v) :: st) (n, sh, I, L, R)) : Wk l E Y M k j pc lo (v2 :: v1 :: st) (n, sh, I, L, R) := by
  refine wk_insS (As := [v1, v2]) hd hq hl rfl hY hC hro hw (fun r S' hF _ => ?_)
  obtain ⟨v, I', L', R', rfl, rfl, rfl, rfl, rfl, hG⟩ := hF
  exact kk v hG
/-- a new array of ints, of cells that hold nothing -/
theorem wk_newA {n : Nat} {sh : qSh} {I L : qI} {R : qR} {zz : Int} {z : Nat} (hd : decode M.2.1 pc = .ok (.newarray .int, 2)) (hq : pc + 2 = q) (hA : Cond.arrayClass .int ∈ qtb) (hz : zz = (z : Int)) (hz2 : z < 100000) (h0 : ∀ i, I (E.2.2 + n) i = 0) (hc : k + 1 ≤ Y.1.cells) (hs : j + z ≤ Y.1.slots)
    (h : Wk l E Y M (k + 1) (j + z) q lo (.ref (E.2.2 + n) :: st) (n + 1, shu sh (E.2.2 + n) (0, z), I, L, R)) : Wk l E Y M k j pc lo (.int (zI zz) :: st) (n, sh, I, L, R) := by
  subst hq
  subst hz
  intro p e s m args below meth c H locs ls hB hH hlv
  refine wk_size hB.2.2.2.2.2.2.2.2.2.1 hH (fun hsz => ?_)
  have hsz' : H.size = E.2.2 + n := hsz
  refine va_newaK (atype := .int) hB.1 hB.2.1 (hB.ts hA) rfl hd rfl (fun q => by rw [show (0 : Int32) = zI 0 from rfl, zI_lt (by omega) (by omega)] at q; omega) (by have := zI_cl (e := (z : Int)) (by omega) (by omega); omega) (by show z * 4 ≤ _; omega) hc hs hsz' fun H1 cA e1 z1 o1 hAr hNm => ?_
  have hcA : cA = E.2.1.1 := Option.some.inj (hNm.symm.trans (hB.K.1.2 0 _ rfl).2)
  subst hcA
  refine W.eq (g2 := F0 m (pc + 2) ls (.ref (E.2.2 + n) :: st)) rfl (h p e s m args below meth c H1 locs ls hB (qHp_grow (S := (n, sh, I, L, R)) (g := 1) rfl (fun b b0 b1 => qel_old (shu_ne (by have b1' : b < E.2.2 + n := b1; omega)) (fun i => ⟨rfl, rfl, rfl⟩)) hH hsz (fun q hq => o1 q (by omega)) (by omega) (fun b b0 b1 => ?_)) hlv)
  have hb : b = E.2.2 + n := by
    have b0' : E.2.2 + n ≤ b := b0
    have b1' : b < E.2.2 + n + 1 := b1
    omega
  subst hb
  rw [qel_i (shu_eq _ _ _)]
  show H1[E.2.2 + n]? = some (arrV E.2.1.1 z (fun i => .int (zI (I (E.2.2 + n) (i : Int)))))
  rw [e1]
  refine congrArg some (arrV_cg fun i hi => ?_)
  rw [h0]
  rfl
end SCR
