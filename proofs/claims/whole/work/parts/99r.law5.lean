/-! THE LAW: the world that the tables speak of -/
theorem lw_E {args : Array Value} {s : State} (hts : ∀ w ∈ lw_tbl, w.before args s = true) : ∃ E : qEv, E.2.2 = s.heap.size ∧ qKs E s := by
  have hq : ∀ w ∈ qtb, w.before args s = true := fun w hw => hts w (qtb_tbl hw)
  obtain ⟨c0, i0, k0⟩ := u_known (C := RX0) (T := TX0) (N := 5) (n := 5) hq cu_0 (hq _ (qtb_in 250 (by decide +kernel) (by decide +kernel)))
  obtain ⟨c1, i1, k1⟩ := u_known (C := RX1) (T := TX1) (N := 4) (n := 4) hq cu_1 (hq _ (qtb_in 228 (by decide +kernel) (by decide +kernel)))
  obtain ⟨c2, i2, k2⟩ := u_known (C := RX2) (T := TX2) (N := 3) (n := 3) hq cu_2 (hq _ (qtb_in 274 (by decide +kernel) (by decide +kernel)))
  obtain ⟨c3, i3, k3⟩ := u_known (C := RX3) (T := TX3) (N := 4) (n := 4) hq cu_3 (hq _ (qtb_in 293 (by decide +kernel) (by decide +kernel)))
  obtain ⟨c4, i4, k4⟩ := u_known (C := RX4) (T := TX4) (N := 13) (n := 13) hq cu_4 (hq _ (qtb_in 162 (by decide +kernel) (by decide +kernel)))
  obtain ⟨c5, i5, k5⟩ := u_known (C := RX5) (T := TX5) (N := 11) (n := 11) hq cu_5 (hq _ (qtb_in 98 (by decide +kernel) (by decide +kernel)))
  obtain ⟨c6, i6, k6⟩ := u_known (C := RX6) (T := TX6) (N := 13) (n := 13) hq cu_6 (hq _ (qtb_in 88 (by decide +kernel) (by decide +kernel)))
  obtain ⟨c7, i7, k7⟩ := u_known (C := RX7) (T := TX7) (N := 51) (n := 51) hq cu_7 (hq _ (qtb_in 788 (by decide +kernel) (by decide +kernel)))
  obtain ⟨aI, xI, pI, fI, gI, eI⟩ := Cond.arrayClass_spec (type := .int) (hts _ (List.mem_of_getElem? (i := 160) (by decide +kernel)))
  obtain ⟨aJ, xJ, pJ, fJ, gJ, eJ⟩ := Cond.arrayClass_spec (type := .long) (hts _ (List.mem_of_getElem? (i := 272) (by decide +kernel)))
  have wA : (Cond.arrayOver (.array .int)).before args s = true := hts _ (List.mem_of_getElem? (i := 104) (by decide +kernel))
  have wS : (Cond.arrayOver (.object RX3)).before args s = true := hts _ (List.mem_of_getElem? (i := 96) (by decide +kernel))
  obtain ⟨pA, aA, xA, dA, gA, eA, fA⟩ := Cond.arrayOver_specA wA
  obtain ⟨pS, aS, xS, dS, -, gS, eS, fS⟩ := Cond.arrayOver_spec wS
  refine ⟨((fun c => match c with | 0 => c0 | 1 => c1 | 2 => c2 | 3 => c3 | 4 => c4 | 5 => c5 | 6 => c6 | _ => c7, fun c => match c with | 0 => i0 | 1 => i1 | 2 => i2 | 3 => i3 | 4 => i4 | 5 => i5 | 6 => i6 | _ => i7), (aI, aJ, aA, aS), s.heap.size), rfl, ⟨⟨fun c q hc => ?_, fun k q hk => ?_⟩, fun w hw => ?_, wA, wS⟩⟩
  · match c, hc with
    | 0, hc => cases hc; exact k0
    | 1, hc => cases hc; exact k1
    | 2, hc => cases hc; exact k2
    | 3, hc => cases hc; exact k3
    | 4, hc => cases hc; exact k4
    | 5, hc => cases hc; exact k5
    | 6, hc => cases hc; exact k6
    | 7, hc => cases hc; exact k7
    | c + 8, hc => simp [vwCl] at hc
  · match k, hk with
    | 0, hk => cases hk; exact ⟨fun n z => ⟨fun k h => (by cases h), xI, gI, pI, eI⟩, fI⟩
    | 1, hk => cases hk; exact ⟨fun n z => ⟨fun k h => (by cases h), xJ, gJ, pJ, eJ⟩, fJ⟩
    | 2, hk => cases hk; exact ⟨fun n z => ⟨fun k h => (by cases h), xA, gA, pA, eA⟩, fA⟩
    | 3, hk => cases hk; exact ⟨fun n z => ⟨fun k h => (by cases h), xS, gS, pS, eS⟩, ⟨xS, pS, gS, eS, dS, fS⟩⟩
    | k + 4, hk => simp [qtys] at hk
  · simp only [qnest, List.mem_cons, List.not_mem_nil, or_false] at hw
    rcases hw with rfl | rfl | rfl | rfl | rfl | rfl | rfl
    · exact va_Nw.of rfl (hts _ (List.mem_of_getElem? (i := 99) (by decide +kernel)))
    · exact va_Nw.of rfl (hts _ (List.mem_of_getElem? (i := 163) (by decide +kernel)))
    · exact va_Nw.of rfl (hts _ (List.mem_of_getElem? (i := 168) (by decide +kernel)))
    · exact va_Nw.of rfl (hts _ (List.mem_of_getElem? (i := 229) (by decide +kernel)))
    · exact va_Nw.of rfl (hts _ (List.mem_of_getElem? (i := 251) (by decide +kernel)))
    · exact va_Nw.of rfl (hts _ (List.mem_of_getElem? (i := 275) (by decide +kernel)))
    · exact va_Nw.of rfl (hts _ (List.mem_of_getElem? (i := 294) (by decide +kernel)))
