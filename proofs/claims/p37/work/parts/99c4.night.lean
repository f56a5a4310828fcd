/-! THE LAW's evening -/
/-- what the evening may write -/
def nfr (x aL : Nat) (I I1 : qI) : Prop := ∀ b i, b ≠ aL → b ≠ x + 171 → b ≠ x + 172 → ¬ (b = x + 167 ∧ 44 ≤ i ∧ i < 51) → I1 b i = I b i
def NS (x aL : Nat) (T : TT) (C : CC) (I I1 : qI) (c s : Int) (e : ES) : Prop := nfr x aL I I1 ∧ (∀ d, 0 ≤ d → d < T.nd → I1 aL d = e.le d) ∧ (∀ g, 0 ≤ g → g < T.ng → I1 (x + 167) (44 + g) = e.la g ∧ I1 (x + 171) g = e.gl g ∧ I1 (x + 171) (7 + g) = e.pa g) ∧
  (∀ c' g, 0 ≤ c' → c' < c → 0 ≤ g → g < T.ng → I1 (x + 172) (7 * c' + g) = e.go c' g) ∧ ∀ s', 0 ≤ s' → s' < s → I1 (x + 172) (7 * c + tgt C s') = e.go c (tgt C s')
section NIGHT
variable {l : Launch} {E : qEv} {n : Nat} {sh : qSh} {I L : qI} {R : qR} {Y : qMo} {k j : Nat}
theorem nt_wish {x aL : Nat} {T : TT} {C : CC} {le : Int → Int} {I1 : qI} {c s g h hf how : Int} (hT : T.ok) (hC : C.ok T) (cT : isC E.2.2 n sh (x + 167) 0 51) (cW : isC E.2.2 n sh (x + 168) 0 42) (cU : isC E.2.2 n sh (x + 169) 0 42) (cG : isC E.2.2 n sh (x + 171) 0 14) (cO : isC E.2.2 n sh (x + 172) 0 56) (cL : isC E.2.2 n sh aL 0 6)
    (h1 : I1 (x + 167) 1 = T.nd) (hpr : ∀ d, 0 ≤ d → d < T.nd → I1 (x + 167) (10 + d) = T.pr d) (hkd : I1 (x + 167) (16 + g) = C.kd g) (hwu : ∀ d, 0 ≤ d → d < T.nd → I1 (x + 168) (6 * h + d) = T.wo h d ∧ I1 (x + 169) (6 * h + d) = C.sa h d)
    (hle : ∀ d, 0 ≤ d → d < T.nd → I1 aL d = le d ∧ 0 ≤ le d ∧ le d ≤ 9) (hg : 0 ≤ g ∧ g < 7) (hh : 0 ≤ h ∧ h < T.ng) (hkd2 : 0 ≤ C.kd g ∧ C.kd g ≤ 2) (hhf : (hf = 1 ∧ how = 2) ∨ (hf = 0 ∧ ((C.kd g = 1 ∧ how = 1) ∨ (C.kd g ≠ 1 ∧ how = 0))))
    (K : ∀ v14 v15 : Int, Wk l E Y mL_night k j 332 [(0, .ref (x + 167)), (1, .ref (x + 168)), (2, .ref (x + 169)), (3, .int (zI T.ng)), (4, .int (zI (-1))), (5, .ref (x + 171)), (6, .ref (x + 172)), (7, .ref aL), (8, .int (zI c)), (9, .int (zI s)), (10, .int (zI g)), (11, .int (zI h)), (12, .int (zI hf)), (13, .int (zI (wish T C how h le))), (14, .int (zI v14)), (15, .int (zI v15))] [] (n, sh, I1, L, R)) : Wk l E Y mL_night k j 165 [(0, .ref (x + 167)), (1, .ref (x + 168)), (2, .ref (x + 169)), (3, .int (zI T.ng)), (4, .int (zI (-1))), (5, .ref (x + 171)), (6, .ref (x + 172)), (7, .ref aL), (8, .int (zI c)), (9, .int (zI s)), (10, .int (zI g)), (11, .int (zI h)), (12, .int (zI hf))] [] (n, sh, I1, L, R) := by
  have hn := hT.2.1
  have hnd := hT.2.2.2.1
  have hnd0 := hT.2.2.1
  obtain ⟨-, -, k3⟩ := hC.2.2.2.2.2.2.2.2.2.2 h hh.1 hh.2
  have pr := hT.2.2.2.2.1
  have loop : ∀ m : Nat, m ≤ T.nd.toNat → ∀ w14 : Int, (wishN T C how h le m ≠ -9 → w14 = itsL T C how h (wishN T C how h le m) + wishN T C how h le m) → Wk l E Y mL_night k j 175 [(0, .ref (x + 167)), (1, .ref (x + 168)), (2, .ref (x + 169)), (3, .int (zI T.ng)), (4, .int (zI (-1))), (5, .ref (x + 171)), (6, .ref (x + 172)), (7, .ref aL), (8, .int (zI c)), (9, .int (zI s)), (10, .int (zI g)), (11, .int (zI h)), (12, .int (zI hf)), (13, .int (zI (wishN T C how h le m))), (14, .int (zI w14)), (15, .int (zI m))] [] (n, sh, I1, L, R) := by
    refine up_ind T.nd.toNat ?_ ?_
    · intro w14 hw14
      have hw := wishN_in T C how h le T.nd.toNat
      refine wk_iload (i := 15) (q := 177) dL_night_175 rfl rfl ?_
      refine wk_aload_n (i := 0) (q := 178) dL_night_177 rfl rfl rfl ?_
      refine wk_iconst (q := 179) dL_night_178 rfl ?_
      refine wk_iald (q := 180) dL_night_179 rfl cT (by omega) ?_
      refine wk_icmp_ge (t := 332) (q := 183) dL_night_180 rfl rfl (by omega) (by omega) (fun hc180 => ?_) (fun hc180 => ?_)
      · exact K _ _
      · omega
    · intro m hm ih w14 hw14
      have hmd : (m : Int) < T.nd := by omega
      have ew := (hwu m (by omega) hmd).1
      have eu := (hwu m (by omega) hmd).2
      have ep := hpr m (by omega) hmd
      have el := hle m (by omega) hmd
      have bk := k3 m (by omega) hmd
      have prk := pr m (by omega) hmd
      have twk := (hT.2.2.2.2.2 h hh.1 hh.2).2.2.2.2.2.2 m (by omega) hmd
      have hw := wishN_in T C how h le m
      have keep : ∀ lo1, (¬ (0 < le m ∧ T.wo h m ≠ -1 ∧ (wishN T C how h le m = -9 ∨ ahead T C how h m (wishN T C how h le m)))) → lo1 = [(0, .ref (x + 167)), (1, .ref (x + 168)), (2, .ref (x + 169)), (3, .int (zI T.ng)), (4, .int (zI (-1))), (5, .ref (x + 171)), (6, .ref (x + 172)), (7, .ref aL), (8, .int (zI c)), (9, .int (zI s)), (10, .int (zI g)), (11, .int (zI h)), (12, .int (zI hf)), (13, .int (zI (wishN T C how h le m))), (14, .int (zI w14)), (15, .int (zI m))] → Wk l E Y mL_night k j 326 lo1 [] (n, sh, I1, L, R) := by
        rintro lo1 hq rfl
        have ih' := ih w14 (by rw [wishN_keep hq]; exact hw14)
        rw [wishN_keep hq] at ih'
        refine wk_iinc (lo' := [(0, _), (1, _), (2, _), (3, _), (4, _), (5, _), (6, _), (7, _), (8, _), (9, _), (10, _), (11, _), (12, _), (13, _), (14, _), (15, _)]) (q := 329) dL_night_326 rfl rfl (by decide) rfl ?_
        refine wk_goto (t := 175) dL_night_329 rfl ?_
        exact ih'
      have take : ∀ v16 : Int, 0 < le m → T.wo h m ≠ -1 → (wishN T C how h le m = -9 ∨ ahead T C how h m (wishN T C how h le m)) → Wk l E Y mL_night k j 315 [(0, .ref (x + 167)), (1, .ref (x + 168)), (2, .ref (x + 169)), (3, .int (zI T.ng)), (4, .int (zI (-1))), (5, .ref (x + 171)), (6, .ref (x + 172)), (7, .ref aL), (8, .int (zI c)), (9, .int (zI s)), (10, .int (zI g)), (11, .int (zI h)), (12, .int (zI hf)), (13, .int (zI (wishN T C how h le m))), (14, .int (zI w14)), (15, .int (zI m)), (16, .int (zI v16)), (17, .int (zI (itsL T C how h m)))] [] (n, sh, I1, L, R) := by
        intro v16 q1 q2 q3
        have ih' := ih (itsL T C how h m + m) (fun _ => by rw [wishN_take q1 q2 q3])
        rw [wishN_take q1 q2 q3] at ih'
        refine wk_iload (i := 15) (q := 317) dL_night_315 rfl rfl ?_
        refine wk_istore (i := 13) (lo' := [(0, _), (1, _), (2, _), (3, _), (4, _), (5, _), (6, _), (7, _), (8, _), (9, _), (10, _), (11, _), (12, _), (13, _), (14, _), (15, _), (16, _), (17, _)]) (q := 319) dL_night_317 rfl (by decide) rfl ?_
        refine wk_iload (i := 17) (q := 321) dL_night_319 rfl rfl ?_
        refine wk_iload (i := 15) (q := 323) dL_night_321 rfl rfl ?_
        refine wk_iadd (q := 324) dL_night_323 rfl ?_
        refine wk_istore (i := 14) (lo' := [(0, _), (1, _), (2, _), (3, _), (4, _), (5, _), (6, _), (7, _), (8, _), (9, _), (10, _), (11, _), (12, _), (13, _), (14, _), (15, _), (16, _), (17, _)]) (q := 326) dL_night_324 rfl (by decide) rfl ?_
        refine wk_iinc (lo' := [(0, _), (1, _), (2, _), (3, _), (4, _), (5, _), (6, _), (7, _), (8, _), (9, _), (10, _), (11, _), (12, _), (13, _), (14, _), (15, _), (16, _), (17, _)]) (q := 329) dL_night_326 rfl rfl (by decide) rfl ?_
        refine wk_goto (t := 175) dL_night_329 rfl ?_
        refine wk_del (i := 17) (lo' := [(0, _), (1, _), (2, _), (3, _), (4, _), (5, _), (6, _), (7, _), (8, _), (9, _), (10, _), (11, _), (12, _), (13, _), (14, _), (15, _), (16, _)]) rfl ?_
        refine wk_del (i := 16) (lo' := [(0, _), (1, _), (2, _), (3, _), (4, _), (5, _), (6, _), (7, _), (8, _), (9, _), (10, _), (11, _), (12, _), (13, _), (14, _), (15, _)]) rfl ?_
        exact ih'
      have fin : ∀ v v16 : Int, v = itsL T C how h m → 0 < le m → T.wo h m ≠ -1 → Wk l E Y mL_night k j 295 [(0, .ref (x + 167)), (1, .ref (x + 168)), (2, .ref (x + 169)), (3, .int (zI T.ng)), (4, .int (zI (-1))), (5, .ref (x + 171)), (6, .ref (x + 172)), (7, .ref aL), (8, .int (zI c)), (9, .int (zI s)), (10, .int (zI g)), (11, .int (zI h)), (12, .int (zI hf)), (13, .int (zI (wishN T C how h le m))), (14, .int (zI w14)), (15, .int (zI m)), (16, .int (zI v16))] [.int (zI v)] (n, sh, I1, L, R) := by
        intro v v16 hv q1 q2
        subst hv
        have hbk : 0 ≤ C.sa h m := by omega
        have hr := itsL_in (T := T) (C := C) (how := how) (h := h) (d := m) ⟨by omega, by omega⟩ ⟨by omega, by omega⟩
        have hro : wishN T C how h le m ≠ -9 → (-2000 ≤ itsL T C how h (wishN T C how h le m) ∧ itsL T C how h (wishN T C how h le m) ≤ 2000) ∧ (itsL T C how h m + m < itsL T C how h (wishN T C how h le m) + wishN T C how h le m ↔ ahead T C how h m (wishN T C how h le m)) := by
          intro hne
          obtain ⟨w0, w1, w2, w3⟩ := hw.resolve_left hne
          have b2 := k3 (wishN T C how h le m) w0 (by omega)
          have p2 := pr (wishN T C how h le m) w0 (by omega)
          exact ⟨itsL_in ⟨by omega, by omega⟩ ⟨by omega, by omega⟩, itsL_ahead ⟨by omega, by omega⟩ ⟨by omega, by omega⟩ ⟨by omega, by omega⟩ ⟨by omega, by omega⟩ ⟨by omega, by omega⟩ ⟨by omega, by omega⟩⟩
        generalize hWN : wishN T C how h le m = wn at keep take hw hro hw14 ⊢
        generalize hIT : itsL T C how h m = it at take hr hro ⊢
        generalize hIO : itsL T C how h wn = io at hro hw14 ⊢
        generalize hAH : (ahead T C how h m wn) = ah at keep take hro
        have t2 : wn = -9 ∨ ah → Wk l E Y mL_night k j 315 [(0, .ref (x + 167)), (1, .ref (x + 168)), (2, .ref (x + 169)), (3, .int (zI T.ng)), (4, .int (zI (-1))), (5, .ref (x + 171)), (6, .ref (x + 172)), (7, .ref aL), (8, .int (zI c)), (9, .int (zI s)), (10, .int (zI g)), (11, .int (zI h)), (12, .int (zI hf)), (13, .int (zI wn)), (14, .int (zI w14)), (15, .int (zI m)), (16, .int (zI v16)), (17, .int (zI it))] [] (n, sh, I1, L, R) := fun z => take v16 q1 q2 z
        have k2 : ¬ (wn = -9 ∨ ah) → Wk l E Y mL_night k j 326 [(0, .ref (x + 167)), (1, .ref (x + 168)), (2, .ref (x + 169)), (3, .int (zI T.ng)), (4, .int (zI (-1))), (5, .ref (x + 171)), (6, .ref (x + 172)), (7, .ref aL), (8, .int (zI c)), (9, .int (zI s)), (10, .int (zI g)), (11, .int (zI h)), (12, .int (zI hf)), (13, .int (zI wn)), (14, .int (zI w14)), (15, .int (zI m))] [] (n, sh, I1, L, R) := fun z => keep _ (fun y => z y.2.2) rfl
        refine wk_istore (i := 17) (lo' := [(0, _), (1, _), (2, _), (3, _), (4, _), (5, _), (6, _), (7, _), (8, _), (9, _), (10, _), (11, _), (12, _), (13, _), (14, _), (15, _), (16, _), (17, _)]) (q := 297) dL_night_295 rfl (by decide) rfl ?_
        refine wk_iload (i := 13) (q := 299) dL_night_297 rfl rfl ?_
        refine wk_if_lt (t := 315) (q := 302) dL_night_299 rfl rfl (by omega) (fun hc299 => ?_) (fun hc299 => ?_)
        · first
          | exact t2 (Or.inl (by omega))
          | exact t2 (Or.inr (hro'.2.mp (by omega)))
        · refine wk_iload (i := 17) (q := 304) dL_night_302 rfl rfl ?_
          refine wk_iload (i := 15) (q := 306) dL_night_304 rfl rfl ?_
          refine wk_iadd (q := 307) dL_night_306 rfl ?_
          have h14 := hw14 (by omega)
          have hro' := hro (by omega)
          refine wk_iload (i := 14) (q := 309) dL_night_307 rfl rfl ?_
          refine wk_icmp_lt (t := 315) (q := 312) dL_night_309 rfl rfl (by omega) (by omega) (fun hc309 => ?_) (fun hc309 => ?_)
          · first
            | exact t2 (Or.inl (by omega))
            | exact t2 (Or.inr (hro'.2.mp (by omega)))
          · refine wk_goto (t := 326) dL_night_312 rfl ?_
            refine wk_del (i := 17) (lo' := [(0, _), (1, _), (2, _), (3, _), (4, _), (5, _), (6, _), (7, _), (8, _), (9, _), (10, _), (11, _), (12, _), (13, _), (14, _), (15, _), (16, _)]) rfl ?_
            refine wk_del (i := 16) (lo' := [(0, _), (1, _), (2, _), (3, _), (4, _), (5, _), (6, _), (7, _), (8, _), (9, _), (10, _), (11, _), (12, _), (13, _), (14, _), (15, _)]) rfl ?_
            refine k2 (fun z => ?_)
            rcases z with z | z
            · omega
            · have := hro'.2.mpr z
              omega
      refine wk_iload (i := 15) (q := 177) dL_night_175 rfl rfl ?_
      refine wk_aload_n (i := 0) (q := 178) dL_night_177 rfl rfl rfl ?_
      refine wk_iconst (q := 179) dL_night_178 rfl ?_
      refine wk_iald (q := 180) dL_night_179 rfl cT (by omega) ?_
      refine wk_icmp_ge (t := 332) (q := 183) dL_night_180 rfl rfl (by omega) (by omega) (fun hc180 => ?_) (fun hc180 => ?_)
      · omega
      · refine wk_aload (i := 7) (q := 185) dL_night_183 rfl rfl ?_
        refine wk_iload (i := 15) (q := 187) dL_night_185 rfl rfl ?_
        refine wk_iald (q := 188) dL_night_187 rfl cL (by omega) ?_
        refine wk_if_eq (t := 326) (q := 191) dL_night_188 rfl rfl (by omega) (fun hc188 => ?_) (fun hc188 => ?_)
        · exact keep _ (by omega) rfl
        · refine wk_aload_n (i := 1) (q := 192) dL_night_191 rfl rfl rfl ?_
          refine wk_bipush (q := 194) dL_night_192 rfl (by decide +kernel) ?_
          refine wk_iload (i := 11) (q := 196) dL_night_194 rfl rfl ?_
          refine wk_imul (q := 197) dL_night_196 rfl ?_
          refine wk_iload (i := 15) (q := 199) dL_night_197 rfl rfl ?_
          refine wk_iadd (q := 200) dL_night_199 rfl ?_
          refine wk_iald (q := 201) dL_night_200 rfl cW (by omega) ?_
          refine wk_if_ge (t := 207) (q := 204) dL_night_201 rfl rfl (by omega) (fun hc201 => ?_) (fun hc201 => ?_)
          · refine wk_aload_n (i := 2) (q := 208) dL_night_207 rfl rfl rfl ?_
            refine wk_bipush (q := 210) dL_night_208 rfl (by decide +kernel) ?_
            refine wk_iload (i := 11) (q := 212) dL_night_210 rfl rfl ?_
            refine wk_imul (q := 213) dL_night_212 rfl ?_
            refine wk_iload (i := 15) (q := 215) dL_night_213 rfl rfl ?_
            refine wk_iadd (q := 216) dL_night_215 rfl ?_
            refine wk_iald (q := 217) dL_night_216 rfl cU (by omega) ?_
            rw [eu]
            refine wk_istore (i := 16) (lo' := [(0, _), (1, _), (2, _), (3, _), (4, _), (5, _), (6, _), (7, _), (8, _), (9, _), (10, _), (11, _), (12, _), (13, _), (14, _), (15, _), (16, _)]) (q := 219) dL_night_217 rfl (by decide) rfl ?_
            refine wk_iload (i := 12) (q := 221) dL_night_219 rfl rfl ?_
            refine wk_if_eq (t := 243) (q := 224) dL_night_221 rfl rfl (by omega) (fun hc221 => ?_) (fun hc221 => ?_)
            · refine wk_aload_n (i := 0) (q := 244) dL_night_243 rfl rfl rfl ?_
              refine wk_bipush (q := 246) dL_night_244 rfl (by decide +kernel) ?_
              refine wk_iload (i := 10) (q := 248) dL_night_246 rfl rfl ?_
              refine wk_iadd (q := 249) dL_night_248 rfl ?_
              refine wk_iald (q := 250) dL_night_249 rfl cT (by omega) ?_
              refine wk_iconst (q := 251) dL_night_250 rfl ?_
              refine wk_icmp_ne (t := 276) (q := 254) dL_night_251 rfl rfl (by omega) (by omega) (fun hc251 => ?_) (fun hc251 => ?_)
              · refine wk_bipush (q := 278) dL_night_276 rfl (by decide +kernel) ?_
                refine wk_bipush (q := 280) dL_night_278 rfl (by decide +kernel) ?_
                refine wk_iload (i := 16) (q := 282) dL_night_280 rfl rfl ?_
                refine wk_isub (q := 283) dL_night_282 rfl ?_
                refine wk_imul (q := 284) dL_night_283 rfl ?_
                refine wk_bipush (q := 286) dL_night_284 rfl (by decide +kernel) ?_
                refine wk_aload_n (i := 0) (q := 287) dL_night_286 rfl rfl rfl ?_
                refine wk_bipush (q := 289) dL_night_287 rfl (by decide +kernel) ?_
                refine wk_iload (i := 15) (q := 291) dL_night_289 rfl rfl ?_
                refine wk_iadd (q := 292) dL_night_291 rfl ?_
                refine wk_iald (q := 293) dL_night_292 rfl cT (by omega) ?_
                rw [ep]
                refine wk_imul (q := 294) dL_night_293 rfl ?_
                refine wk_iadd (q := 295) dL_night_294 rfl ?_
                refine fin _ _ ?_ (by omega) (by omega)
                unfold itsL
                first
                  | rw [if_pos (by omega)]
                  | rw [if_neg (by omega), if_pos (by omega)]
                  | rw [if_neg (by omega), if_neg (by omega)]
              · refine wk_bipush (q := 256) dL_night_254 rfl (by decide +kernel) ?_
                refine wk_aload_n (i := 0) (q := 257) dL_night_256 rfl rfl rfl ?_
                refine wk_bipush (q := 259) dL_night_257 rfl (by decide +kernel) ?_
                refine wk_iload (i := 15) (q := 261) dL_night_259 rfl rfl ?_
                refine wk_iadd (q := 262) dL_night_261 rfl ?_
                refine wk_iald (q := 263) dL_night_262 rfl cT (by omega) ?_
                rw [ep]
                refine wk_imul (q := 264) dL_night_263 rfl ?_
                refine wk_bipush (q := 266) dL_night_264 rfl (by decide +kernel) ?_
                refine wk_bipush (q := 268) dL_night_266 rfl (by decide +kernel) ?_
                refine wk_iload (i := 16) (q := 270) dL_night_268 rfl rfl ?_
                refine wk_isub (q := 271) dL_night_270 rfl ?_
                refine wk_imul (q := 272) dL_night_271 rfl ?_
                refine wk_iadd (q := 273) dL_night_272 rfl ?_
                refine wk_goto (t := 295) dL_night_273 rfl ?_
                refine fin _ _ ?_ (by omega) (by omega)
                unfold itsL
                first
                  | rw [if_pos (by omega)]
                  | rw [if_neg (by omega), if_pos (by omega)]
                  | rw [if_neg (by omega), if_neg (by omega)]
            · refine wk_bipush (q := 226) dL_night_224 rfl (by decide +kernel) ?_
              refine wk_iload (i := 16) (q := 228) dL_night_226 rfl rfl ?_
              refine wk_imul (q := 229) dL_night_228 rfl ?_
              refine wk_bipush (q := 231) dL_night_229 rfl (by decide +kernel) ?_
              refine wk_aload_n (i := 0) (q := 232) dL_night_231 rfl rfl rfl ?_
              refine wk_bipush (q := 234) dL_night_232 rfl (by decide +kernel) ?_
              refine wk_iload (i := 15) (q := 236) dL_night_234 rfl rfl ?_
              refine wk_iadd (q := 237) dL_night_236 rfl ?_
              refine wk_iald (q := 238) dL_night_237 rfl cT (by omega) ?_
              rw [ep]
              refine wk_imul (q := 239) dL_night_238 rfl ?_
              refine wk_iadd (q := 240) dL_night_239 rfl ?_
              refine wk_goto (t := 295) dL_night_240 rfl ?_
              refine fin _ _ ?_ (by omega) (by omega)
              unfold itsL
              first
                | rw [if_pos (by omega)]
                | rw [if_neg (by omega), if_pos (by omega)]
                | rw [if_neg (by omega), if_neg (by omega)]
          · refine wk_goto (t := 326) dL_night_204 rfl ?_
            exact keep _ (by omega) rfl
  have l0 := loop 0 (Nat.zero_le _) 0 (fun z => absurd rfl z)
  refine wk_bipush (q := 167) dL_night_165 rfl (by decide +kernel) ?_
  refine wk_istore (i := 13) (lo' := [(0, _), (1, _), (2, _), (3, _), (4, _), (5, _), (6, _), (7, _), (8, _), (9, _), (10, _), (11, _), (12, _), (13, _)]) (q := 169) dL_night_167 rfl (by decide) rfl ?_
  refine wk_iconst (q := 170) dL_night_169 rfl ?_
  refine wk_istore (i := 14) (lo' := [(0, _), (1, _), (2, _), (3, _), (4, _), (5, _), (6, _), (7, _), (8, _), (9, _), (10, _), (11, _), (12, _), (13, _), (14, _)]) (q := 172) dL_night_170 rfl (by decide) rfl ?_
  refine wk_iconst (q := 173) dL_night_172 rfl ?_
  refine wk_istore (i := 15) (lo' := [(0, _), (1, _), (2, _), (3, _), (4, _), (5, _), (6, _), (7, _), (8, _), (9, _), (10, _), (11, _), (12, _), (13, _), (14, _), (15, _)]) (q := 175) dL_night_173 rfl (by decide) rfl ?_
  exact l0
theorem u1_nop (f : Int → Int) (i : Int) : u1 f i (f i) = f := funext fun q => by
  unfold u1
  split
  · rename_i z
    rw [z]
  · rfl
/-- how a seat's step shows -/
theorem NS.step {x aL : Nat} {T : TT} {C : CC} {I I1 : qI} {c s : Int} {e : ES} {g h b tv : Int} (hNS : NS x aL T C I I1 c s e) (hal : aL ≠ x + 167 ∧ aL ≠ x + 171 ∧ aL ≠ x + 172) (hng : T.ng ≤ 7) (hc : 0 ≤ c ∧ c < 8) (htg : ∀ s', 0 ≤ s' → s' < s + 1 → 0 ≤ tgt C s' ∧ tgt C s' < T.ng) (hg : 0 ≤ g ∧ g < T.ng) (hh : 0 ≤ h ∧ h < T.ng) (eg : C.od s = g) (eh : tgt C s = h) (eb : askD T C c s e = b) (htv : (b < 0 ∧ tv = 0) ∨ (0 ≤ b ∧ tv = T.wo h b)) :
    NS x aL T C I (if b < 0 then (up (up (up (up I1 (x + 172) (7 * c + h) b) (x + 167) (44 + h) b) (x + 171) h (e.gl h + 10 * tv)) (x + 171) g (u1 e.gl h (e.gl h + 10 * tv) g + T.kn g * tv)) else (up (up (up (up (up (up I1 (x + 172) (7 * c + h) b) (x + 167) (44 + h) b) (x + 171) h (e.gl h + 10 * tv)) (x + 171) g (u1 e.gl h (e.gl h + 10 * tv) g + T.kn g * tv)) aL b (e.le b - 1)) (x + 171) (7 + g) (e.pa g + T.pr b))) c (s + 1) (askS T C c s e) := by
  obtain ⟨n1, n2, n3, n4, n5⟩ := hNS
  have ele : (askS T C c s e).le = if b < 0 then e.le else u1 e.le b (e.le b - 1) := by rw [← eb]; rfl
  have ela : (askS T C c s e).la = u1 e.la h b := by rw [← eb, ← eh]; rfl
  have ego : (askS T C c s e).go = u2 e.go c h b := by rw [← eb, ← eh]; rfl
  have egl : (askS T C c s e).gl = u1 (u1 e.gl h (e.gl h + 10 * tv)) g (u1 e.gl h (e.gl h + 10 * tv) g + T.kn g * tv) := by
    rcases htv with ⟨z, ht⟩ | ⟨z, ht⟩
    · have e0 : (askS T C c s e).gl = e.gl := by
        show (if askD T C c s e < 0 then e.gl else _) = e.gl
        rw [eb, if_pos z]
      rw [e0, ht, Int.mul_zero, Int.mul_zero, Int.add_zero, Int.add_zero, u1_nop, u1_nop]
    · have e0 : (askS T C c s e).gl = if askD T C c s e < 0 then e.gl else u1 (u1 e.gl (tgt C s) (e.gl (tgt C s) + 10 * T.wo (tgt C s) (askD T C c s e))) (C.od s) (u1 e.gl (tgt C s) (e.gl (tgt C s) + 10 * T.wo (tgt C s) (askD T C c s e)) (C.od s) + T.kn (C.od s) * T.wo (tgt C s) (askD T C c s e)) := rfl
      rw [e0, eb, if_neg (by omega), eg, eh, ht]
  have epa : (askS T C c s e).pa = if b < 0 then e.pa else u1 e.pa g (e.pa g + T.pr b) := by rw [← eb, ← eg]; rfl
  have y4 : ∀ q i, q ≠ x + 171 → (up (up (up (up I1 (x + 172) (7 * c + h) b) (x + 167) (44 + h) b) (x + 171) h (e.gl h + 10 * tv)) (x + 171) g (u1 e.gl h (e.gl h + 10 * tv) g + T.kn g * tv)) q i = (up (up I1 (x + 172) (7 * c + h) b) (x + 167) (44 + h) b) q i := fun q i z => by rw [up_na _ _ _ _ z, up_na _ _ _ _ z]
  have y4g : ∀ q, 0 ≤ q → q < T.ng → (up (up (up (up I1 (x + 172) (7 * c + h) b) (x + 167) (44 + h) b) (x + 171) h (e.gl h + 10 * tv)) (x + 171) g (u1 e.gl h (e.gl h + 10 * tv) g + T.kn g * tv)) (x + 171) q = u1 (u1 e.gl h (e.gl h + 10 * tv)) g (u1 e.gl h (e.gl h + 10 * tv) g + T.kn g * tv) q := by
    intro q q0 q1
    by_cases e1 : q = g
    · rw [e1, up_eq, u1_eq]
    · rw [up_ni _ _ e1, u1_ne e1]
      by_cases e2 : q = h
      · rw [e2, up_eq, u1_eq]
      · rw [up_ni _ _ e2, u1_ne e2, up_na _ _ _ _ (by omega), up_na _ _ _ _ (by omega)]
        exact (n3 q q0 q1).2.1
  have y4p : ∀ q, 0 ≤ q → q < T.ng → (up (up (up (up I1 (x + 172) (7 * c + h) b) (x + 167) (44 + h) b) (x + 171) h (e.gl h + 10 * tv)) (x + 171) g (u1 e.gl h (e.gl h + 10 * tv) g + T.kn g * tv)) (x + 171) (7 + q) = e.pa q := by
    intro q q0 q1
    rw [up_o2 (by omega), up_o2 (by omega), up_na _ _ _ _ (by omega), up_na _ _ _ _ (by omega)]
    exact (n3 q q0 q1).2.2
  have y2t : ∀ q, 0 ≤ q → q < T.ng → (up (up I1 (x + 172) (7 * c + h) b) (x + 167) (44 + h) b) (x + 167) (44 + q) = u1 e.la h b q := by
    intro q q0 q1
    by_cases e1 : q = h
    · rw [e1, up_eq, u1_eq]
    · rw [up_o2 (by omega), up_na _ _ _ _ (by omega), u1_ne e1]
      exact (n3 q q0 q1).1
  have y2o : ∀ c' q, 0 ≤ c' → 0 ≤ q → q < T.ng → (c' < c ∨ c' = c ∧ ∃ s', 0 ≤ s' ∧ s' < s + 1 ∧ tgt C s' = q) → (up (up I1 (x + 172) (7 * c + h) b) (x + 167) (44 + h) b) (x + 172) (7 * c' + q) = u2 e.go c h b c' q := by
    intro c' q c0 q0 q1 hq
    rw [up_na _ _ _ _ (by omega)]
    by_cases e1 : c' = c ∧ q = h
    · rw [e1.1, e1.2, up_eq, u2_eq]
    · rw [up_o2 (by omega), u2_ne (by omega)]
      rcases hq with z | ⟨z, s', s0, s1, s2⟩
      · exact n4 c' q c0 z q0 q1
      · rw [z, ← s2]
        by_cases e2 : s' = s
        · rw [e2, eh] at s2
          exact absurd ⟨z, s2.symm⟩ e1
        · exact n5 s' s0 (by omega)
  have fr4 : nfr x aL I (up (up (up (up I1 (x + 172) (7 * c + h) b) (x + 167) (44 + h) b) (x + 171) h (e.gl h + 10 * tv)) (x + 171) g (u1 e.gl h (e.gl h + 10 * tv) g + T.kn g * tv)) := fun q i z1 z2 z3 z4 => by
    rw [y4 q i z2, up_o2 (by omega), up_na _ _ _ _ z3]
    exact n1 q i z1 z2 z3 z4
  unfold NS
  rw [ele, ela, ego, egl, epa]
  by_cases hb : b < 0
  · rw [if_pos hb, if_pos hb, if_pos hb]
    refine ⟨fr4, fun d d0 d1 => ?_, fun q q0 q1 => ⟨?_, y4g q q0 q1, y4p q q0 q1⟩, fun c' q c0 c1 q0 q1 => ?_, fun s' s0 s1 => ?_⟩
    · rw [y4 _ _ (by omega), up_na _ _ _ _ (by omega), up_na _ _ _ _ (by omega)]
      exact n2 d d0 d1
    · rw [y4 _ _ (by omega)]
      exact y2t q q0 q1
    · rw [y4 _ _ (by omega)]
      exact y2o c' q c0 q0 q1 (Or.inl c1)
    · rw [y4 _ _ (by omega)]
      exact y2o c (tgt C s') hc.1 (htg s' s0 s1).1 (htg s' s0 s1).2 (Or.inr ⟨rfl, s', s0, s1, rfl⟩)
  · rw [if_neg hb, if_neg hb, if_neg hb]
    refine ⟨fun q i z1 z2 z3 z4 => ?_, fun d d0 d1 => ?_, fun q q0 q1 => ⟨?_, ?_, ?_⟩, fun c' q c0 c1 q0 q1 => ?_, fun s' s0 s1 => ?_⟩
    · rw [up_na _ _ _ _ z2, up_na _ _ _ _ z1]
      exact fr4 q i z1 z2 z3 z4
    · rw [up_na _ _ _ _ (by omega)]
      by_cases e1 : d = b
      · rw [e1, up_eq, u1_eq]
      · rw [up_ni _ _ e1, u1_ne e1, y4 _ _ (by omega), up_na _ _ _ _ (by omega), up_na _ _ _ _ (by omega)]
        exact n2 d d0 d1
    · rw [up_na _ _ _ _ (by omega), up_na _ _ _ _ (by omega), y4 _ _ (by omega)]
      exact y2t q q0 q1
    · rw [up_o2 (by omega), up_na _ _ _ _ (by omega)]
      exact y4g q q0 q1
    · by_cases e1 : q = g
      · rw [e1, up_eq, u1_eq]
      · rw [up_o2 (by omega), up_na _ _ _ _ (by omega), u1_ne e1]
        exact y4p q q0 q1
    · rw [up_na _ _ _ _ (by omega), up_na _ _ _ _ (by omega), y4 _ _ (by omega)]
      exact y2o c' q c0 q0 q1 (Or.inl c1)
    · rw [up_na _ _ _ _ (by omega), up_na _ _ _ _ (by omega), y4 _ _ (by omega)]
      exact y2o c (tgt C s') hc.1 (htg s' s0 s1).1 (htg s' s0 s1).2 (Or.inr ⟨rfl, s', s0, s1, rfl⟩)
end NIGHT
