/-! THE LAW: the world of the tables -/
theorem lw_E {args : Array Value} {s : State} (hts : ∀ w ∈ lw_tbl, w.before args s = true) : ∃ E : qEv, E.2.2 = s.heap.size ∧ qKs E s := by
  have hq : ∀ w ∈ qtb, w.before args s = true := fun w hw => hts w (qtb_tbl hw)
  obtain ⟨c0, i0, k0⟩ := u_known (C := RX0) (T := TX0) (N := 5) (n := 5) hq cu_0 (hq _ (qtb_in 172 (by decide +kernel) (by decide +kernel)))
  obtain ⟨c1, i1, k1⟩ := u_known (C := RX1) (T := TX1) (N := 4) (n := 4) hq cu_1 (hq _ (qtb_in 154 (by decide +kernel) (by decide +kernel)))
  obtain ⟨c2, i2, k2⟩ := u_known (C := RX2) (T := TX2) (N := 3) (n := 3) hq cu_2 (hq _ (qtb_in 194 (by decide +kernel) (by decide +kernel)))
  obtain ⟨c3, i3, k3⟩ := u_known (C := RX3) (T := TX3) (N := 4) (n := 4) hq cu_3 (hq _ (qtb_in 210 (by decide +kernel) (by decide +kernel)))
  obtain ⟨c4, i4, k4⟩ := u_known (C := RX4) (T := TX4) (N := 13) (n := 13) hq cu_4 (hq _ (qtb_in 96 (by decide +kernel) (by decide +kernel)))
  obtain ⟨c5, i5, k5⟩ := u_known (C := RX5) (T := TX5) (N := 11) (n := 11) hq cu_5 (hq _ (qtb_in 40 (by decide +kernel) (by decide +kernel)))
  obtain ⟨c6, i6, k6⟩ := u_known (C := RX6) (T := TX6) (N := 13) (n := 13) hq cu_6 (hq _ (qtb_in 30 (by decide +kernel) (by decide +kernel)))
  obtain ⟨aI, xI, pI, fI, gI, eI⟩ := Cond.arrayClass_spec (type := .int) (hts _ (List.mem_of_getElem? (i := 94) (by decide +kernel)))
  obtain ⟨aJ, xJ, pJ, fJ, gJ, eJ⟩ := Cond.arrayClass_spec (type := .long) (hts _ (List.mem_of_getElem? (i := 192) (by decide +kernel)))
  have wA : (Cond.arrayOver (.array .int)).before args s = true := hts _ (List.mem_of_getElem? (i := 46) (by decide +kernel))
  have wS : (Cond.arrayOver (.object RX3)).before args s = true := hts _ (List.mem_of_getElem? (i := 38) (by decide +kernel))
  obtain ⟨pA, aA, xA, dA, gA, eA, fA⟩ := Cond.arrayOver_specA wA
  obtain ⟨pS, aS, xS, dS, -, gS, eS, fS⟩ := Cond.arrayOver_spec wS
  refine ⟨((fun c => match c with | 0 => c0 | 1 => c1 | 2 => c2 | 3 => c3 | 4 => c4 | 5 => c5 | _ => c6, fun c => match c with | 0 => i0 | 1 => i1 | 2 => i2 | 3 => i3 | 4 => i4 | 5 => i5 | _ => i6), (aI, aJ, aA, aS), s.heap.size), rfl, ⟨⟨fun c q hc => ?_, fun k q hk => ?_⟩, fun w hw => ?_, wA, wS⟩⟩
  · match c, hc with
    | 0, hc => cases hc; exact k0
    | 1, hc => cases hc; exact k1
    | 2, hc => cases hc; exact k2
    | 3, hc => cases hc; exact k3
    | 4, hc => cases hc; exact k4
    | 5, hc => cases hc; exact k5
    | 6, hc => cases hc; exact k6
    | c + 7, hc => simp [vwCl] at hc
  · match k, hk with
    | 0, hk => cases hk; exact ⟨fun n z => ⟨fun k h => (by cases h), xI, gI, pI, eI⟩, fI⟩
    | 1, hk => cases hk; exact ⟨fun n z => ⟨fun k h => (by cases h), xJ, gJ, pJ, eJ⟩, fJ⟩
    | 2, hk => cases hk; exact ⟨fun n z => ⟨fun k h => (by cases h), xA, gA, pA, eA⟩, fA⟩
    | 3, hk => cases hk; exact ⟨fun n z => ⟨fun k h => (by cases h), xS, gS, pS, eS⟩, ⟨xS, pS, gS, eS, dS, fS⟩⟩
    | k + 4, hk => simp [qtys] at hk
  · simp only [qnest, List.mem_cons, List.not_mem_nil, or_false] at hw
    rcases hw with rfl | rfl | rfl | rfl | rfl | rfl | rfl
    · exact va_Nw.of rfl (hts _ (List.mem_of_getElem? (i := 41) (by decide +kernel)))
    · exact va_Nw.of rfl (hts _ (List.mem_of_getElem? (i := 97) (by decide +kernel)))
    · exact va_Nw.of rfl (hts _ (List.mem_of_getElem? (i := 102) (by decide +kernel)))
    · exact va_Nw.of rfl (hts _ (List.mem_of_getElem? (i := 155) (by decide +kernel)))
    · exact va_Nw.of rfl (hts _ (List.mem_of_getElem? (i := 173) (by decide +kernel)))
    · exact va_Nw.of rfl (hts _ (List.mem_of_getElem? (i := 195) (by decide +kernel)))
    · exact va_Nw.of rfl (hts _ (List.mem_of_getElem? (i := 211) (by decide +kernel)))
