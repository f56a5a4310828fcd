/-! TABLE, the reference: a text is read, a table taken -/
def dsD (c : Int → Int) (b : Int) (m : Nat) (j : Nat) (I' : qI) : Prop := ∀ i : Nat, i < j → I' (m + 13) i = c (b + 2 + 2 * i) - 48 ∧ I' (m + 14) i = c (b + 3 + 2 * i) - 48
section TEXT6
variable {l : Launch} {E : qEv} {n : Nat} {sh : qSh} {I L : qI} {R : qR}
theorem ct_X7_readTable {m : Nat} {k e b : Int} {c : Int → Int} (hM : qMod E.2.2 n sh R m) (h : txM I m k c e b) :
    Ct l E 3 mX7_readTable [.ref m, .int (zI (100 * k + e))] (n, sh, I, L, R) 0 0 (qZ n sh (rdM L R m k c e ((rdR c b e).1 = 1) (rdR c b e).2.1 (rdR c b e).2.1 (fun I' => frH I m I' ∧ I' m 20 = ((rdR c b e).2.2 : Int) ∧ I' m 21 = (mOf c b : Int) ∧ dsD c b m (mOf c b) I' ∧ ∀ a : Nat, a < (rdR c b e).2.2 → gdM c (mOf c b) m (gp c e (mOf c b) (b + 2 + 2 * mOf c b) a + 1) (a : Int) I') (frH I m))) := by
  obtain ⟨h1, h2, h3, h4, h5, h6, h7, h8⟩ := id h
  have bad : ∀ (a0 : Int) (q : Nat) (I1 : qI), rdR c b e = (0, a0, q) → txM I1 m k c e a0 → frH I m I1 → qZ n sh (rdM L R m k c e ((rdR c b e).1 = 1) (rdR c b e).2.1 (rdR c b e).2.1 (fun I' => frH I m I' ∧ I' m 20 = ((rdR c b e).2.2 : Int) ∧ I' m 21 = (mOf c b : Int) ∧ dsD c b m (mOf c b) I' ∧ ∀ a : Nat, a < (rdR c b e).2.2 → gdM c (mOf c b) m (gp c e (mOf c b) (b + 2 + 2 * mOf c b) a + 1) (a : Int) I') (frH I m)) (some (.int (zI 0))) (n, sh, I1, L, R) := by
    intro a0 q I1 q1 q2 q3
    exact ⟨_, _, _, _, rfl, rfl, Or.inr ⟨rfl, rfl, rfl, by rw [q1]; show ¬ (0 : Int) = 1; decide, by rw [q1]; exact q2, q3⟩⟩
  have loopG : (b < e ∧ c b = 100) → dgOk c e (b + 1) 2 6 ∧ fstN (dsB c e (b + 2)) (2 * mOf c b) = 2 * mOf c b → ∀ M : Nat, M = mOf c b → 2 ≤ M ∧ M ≤ 6 → ∀ (f g : Nat), g + f = 7 → gEnd c e M f g (gp c e M (b + 2 + 2 * M) g) = rdR c b e → ∀ I1 : qI, txM I1 m k c e (gp c e M (b + 2 + 2 * M) g) → frH I m I1 → I1 m 20 = (g : Int) → I1 m 21 = (M : Int) → dsD c b m M I1 → (∀ a : Nat, a < g → gdM c M m (gp c e M (b + 2 + 2 * M) a + 1) (a : Int) I1) → ∀ lo : List (Nat × Value), lo = [(0, .ref m), (1, .int (zI (100 * k + e)))] → Wk l E (qmo E 3 n 0 0 (qZ n sh (rdM L R m k c e ((rdR c b e).1 = 1) (rdR c b e).2.1 (rdR c b e).2.1 (fun I' => frH I m I' ∧ I' m 20 = ((rdR c b e).2.2 : Int) ∧ I' m 21 = (mOf c b : Int) ∧ dsD c b m (mOf c b) I' ∧ ∀ a : Nat, a < (rdR c b e).2.2 → gdM c (mOf c b) m (gp c e (mOf c b) (b + 2 + 2 * mOf c b) a + 1) (a : Int) I') (frH I m)))) mX7_readTable 0 0 156
      lo [] (n, sh, I1, L, R) := by
    intro p1 p2 M hMe hM2 f
    induction f with
    | zero =>
      intro g hg hz I1 f1 f2 f3 f4 f5 f6 lo hlo
      subst hlo
      have z := gEnd_stop (c := c) (M := M) (f := 0) (k := g) (e := e) (a := gp c e M (b + 2 + 2 * M) g) (Or.inl rfl)
      rw [hz] at z
      have x19 := f1.2.1
      have x20 := f1.2.2
      refine wk_aload_n (i := 0) (q := 157) dX7_readTable_156 rfl rfl rfl ?_
      refine wk_getI (fi := 20) (q := 160) dX7_readTable_157 rfl fl_X7_155 rfl rfl hM.ob ?_
      refine wk_iconst (q := 161) dX7_readTable_160 rfl ?_
      refine wk_icmp_lt (t := 172) (q := 164) dX7_readTable_161 rfl rfl (by omega) (by omega) (fun hc161 => ?_) (fun hc161 => ?_)
      · refine wk_aload_n (i := 0) (q := 173) dX7_readTable_172 rfl rfl rfl ?_
        refine wk_getI (fi := 20) (q := 176) dX7_readTable_173 rfl fl_X7_155 rfl rfl hM.ob ?_
        refine wk_bipush (q := 178) dX7_readTable_176 rfl (by decide +kernel) ?_
        refine wk_icmp_eq (t := 191) (q := 181) dX7_readTable_178 rfl rfl (by omega) (by omega) (fun hc178 => ?_) (fun hc178 => ?_)
        · refine wk_iconst (q := 192) dX7_readTable_191 rfl ?_
          refine wk_zret dX7_readTable_192 rfl (by omega) ⟨Nat.le_refl _, Nat.le_refl _⟩ rfl ?_
          rw [if_neg (by omega)] at z
          exact bad _ _ _ z f1 f2
        · omega
      · refine wk_aload_n (i := 0) (q := 165) dX7_readTable_164 rfl rfl rfl ?_
        refine wk_getI (fi := 19) (q := 168) dX7_readTable_165 rfl fl_X7_131 rfl rfl hM.ob ?_
        refine wk_iload_n (i := 1) (q := 169) dX7_readTable_168 rfl rfl rfl ?_
        refine wk_icmp_ge (t := 213) (q := 172) dX7_readTable_169 rfl rfl (by omega) (by omega) (fun hc169 => ?_) (fun hc169 => ?_)
        · refine wk_iconst (q := 214) dX7_readTable_213 rfl ?_
          refine wk_zret dX7_readTable_214 rfl (by omega) ⟨Nat.le_refl _, Nat.le_refl _⟩ rfl ?_
          rw [if_pos (by omega)] at z
          exact ⟨_, _, _, _, rfl, rfl, Or.inl ⟨rfl, rfl, rfl, by rw [z], by rw [z]; exact f1, f2, by rw [z]; exact f3, by rw [← hMe]; exact f4, by rw [← hMe]; exact f5, fun a ha => by rw [z] at ha; rw [← hMe]; exact f6 a ha⟩⟩
        · refine wk_aload_n (i := 0) (q := 173) dX7_readTable_172 rfl rfl rfl ?_
          refine wk_getI (fi := 20) (q := 176) dX7_readTable_173 rfl fl_X7_155 rfl rfl hM.ob ?_
          refine wk_bipush (q := 178) dX7_readTable_176 rfl (by decide +kernel) ?_
          refine wk_icmp_eq (t := 191) (q := 181) dX7_readTable_178 rfl rfl (by omega) (by omega) (fun hc178 => ?_) (fun hc178 => ?_)
          · refine wk_iconst (q := 192) dX7_readTable_191 rfl ?_
            refine wk_zret dX7_readTable_192 rfl (by omega) ⟨Nat.le_refl _, Nat.le_refl _⟩ rfl ?_
            rw [if_neg (by omega)] at z
            exact bad _ _ _ z f1 f2
          · omega
    | succ f ih =>
      intro g hg hz I1 f1 f2 f3 f4 f5 f6 lo hlo
      subst hlo
      have x19 := f1.2.1
      have x20 := f1.2.2
      have done : e ≤ gp c e M (b + 2 + 2 * M) g → rdR c b e = (if 2 ≤ g ∧ gp c e M (b + 2 + 2 * M) g = e then 1 else 0, gp c e M (b + 2 + 2 * M) g, g) := fun q => by
        rw [← hz]
        exact gEnd_stop (Or.inr q)
      have more : ¬ e ≤ gp c e M (b + 2 + 2 * M) g → rdR c b e = if (gF c e M (gp c e M (b + 2 + 2 * M) g)).1 = 0 then (0, (gF c e M (gp c e M (b + 2 + 2 * M) g)).2, g) else gEnd c e M f (g + 1) (gF c e M (gp c e M (b + 2 + 2 * M) g)).2 := fun q => by
        rw [← hz]
        exact gEnd_go q
      have cont : (gp c e M (b + 2 + 2 * M) g < e ∧ c (gp c e M (b + 2 + 2 * M) g) = 59) → Wk l E (qmo E 3 n 0 0 (qZ n sh (rdM L R m k c e ((rdR c b e).1 = 1) (rdR c b e).2.1 (rdR c b e).2.1 (fun I' => frH I m I' ∧ I' m 20 = ((rdR c b e).2.2 : Int) ∧ I' m 21 = (mOf c b : Int) ∧ dsD c b m (mOf c b) I' ∧ ∀ a : Nat, a < (rdR c b e).2.2 → gdM c (mOf c b) m (gp c e (mOf c b) (b + 2 + 2 * mOf c b) a + 1) (a : Int) I') (frH I m)))) mX7_readTable 0 0 193
          [(0, .ref m), (1, .int (zI (100 * k + e)))] [] (n, sh, I1, L, R) := by
        intro q59
        have m1 := more (by omega)
        have eF : gF c e M (gp c e M (b + 2 + 2 * M) g) = gB c e M (gp c e M (b + 2 + 2 * M) g + 1) := if_neg (fun q => q q59)
        have egp : gp c e M (b + 2 + 2 * M) (g + 1) = (gB c e M (gp c e M (b + 2 + 2 * M) g + 1)).2 := by
          show (gF c e M (gp c e M (b + 2 + 2 * M) g)).2 = _
          rw [eF]
        have y1 : txM (up I1 m 19 (I1 m 19 + 1)) m k c e (gp c e M (b + 2 + 2 * M) g + 1) := f1.up (fun i => up_na _ _ _ _ (by omega)) (by rw [up_eq, x19]; omega) (by omega)
        refine wk_aload_n (i := 0) (q := 194) dX7_readTable_193 rfl rfl rfl ?_
        refine wk_dup (q := 195) dX7_readTable_194 rfl rfl ?_
        refine wk_getI (fi := 19) (q := 198) dX7_readTable_195 rfl fl_X7_131 rfl rfl hM.ob ?_
        refine wk_iconst (q := 199) dX7_readTable_198 rfl ?_
        refine wk_iadd (q := 200) dX7_readTable_199 rfl ?_
        refine wk_putI (fi := 19) (q := 203) dX7_readTable_200 rfl fl_X7_131 fw_7_19 rfl rfl hM.ob ?_
        refine wk_aload_n (i := 0) (q := 204) dX7_readTable_203 rfl rfl rfl ?_
        refine wk_iload_n (i := 1) (q := 205) dX7_readTable_204 rfl rfl rfl ?_
        refine wk_cZ1 (q := 208) dX7_readTable_205 rfl vl_X7_178 ⟨_, _, rfl⟩ hM.ob (ct_X7_readGuest (M := M) (g := (g : Int)) hM y1 (by rw [up_ni _ _ (by omega)]; exact f3) (by rw [up_ni _ _ (by omega)]; exact f4) hM2 (by omega)) (qRo_m ok_X7_readGuest (by decide) (Nat.le_refl _) (Nat.le_refl _)) (Nat.le_of_ble_eq_true rfl) (fun v205 I205 L205 R205 hv205 => ?_)
        rcases hv205 with ⟨rfl, hv205⟩ | ⟨rfl, hv205⟩
        · obtain ⟨rfl, rfl, p205, x205, f205⟩ := hv205
          refine wk_if_ne (t := 156) (q := 211) dX7_readTable_208 rfl rfl (by omega) (fun _ => ?_) (fun hq => absurd hq (by decide))
          obtain ⟨k1, k2, k3⟩ := f205
          rw [eF, if_neg (by omega)] at m1
          have kk : ∀ b' i, ¬ (b' = m ∧ 19 ≤ i ∧ i ≤ 21) → ¬ (m + 15 ≤ b' ∧ b' ≤ m + 18) → I205 b' i = I1 b' i := fun b' i q1 q2 => by rw [k1 b' i (by omega) (by omega) (by omega), up_off (by omega)]
          refine ih (g + 1) (by omega) (by rw [egp]; exact m1.symm) _ (by rw [egp]; exact x205) (fun b' i q1 q2 => by rw [kk b' i q1 (by omega)]; exact f2 b' i q1 q2) k2 (by rw [k1 _ _ (by omega) (by omega) (by omega), up_ni _ _ (by omega)]; exact f4) (fun i hi => by rw [kk _ _ (by omega) (by omega), kk _ _ (by omega) (by omega)]; exact f5 i hi) (fun a ha => ?_) _ rfl
          by_cases q : a = g
          · subst q
            exact k3
          · obtain ⟨w1, w2, w3, w4⟩ := f6 a (by omega)
            have ku : ∀ b' i, b' ≠ m → ¬ ((b' = m + 15 ∨ b' = m + 16 ∨ b' = m + 17) ∧ i = (g : Int)) → ¬ (b' = m + 18 ∧ 6 * (g : Int) ≤ i ∧ i < 6 * (g : Int) + 6) → I205 b' i = I1 b' i := fun b' i q0 q1 q2 => by rw [k1 b' i (by omega) q1 q2, up_na _ _ _ _ q0]
            exact ⟨by rw [ku _ _ (by omega) (by omega) (by omega)]; exact w1, by rw [ku _ _ (by omega) (by omega) (by omega)]; exact w2, by rw [ku _ _ (by omega) (by omega) (by omega)]; exact w3, fun j hj => by rw [ku _ _ (by omega) (by omega) (by omega)]; exact w4 j hj⟩
        · obtain ⟨rfl, rfl, p205, x205, f205⟩ := hv205
          refine wk_if_ne (t := 156) (q := 211) dX7_readTable_208 rfl rfl (by omega) (fun hq => absurd hq (by decide)) (fun _ => ?_)
          refine wk_iconst (q := 212) dX7_readTable_211 rfl ?_
          refine wk_zret dX7_readTable_212 rfl (by omega) ⟨Nat.le_refl _, Nat.le_refl _⟩ rfl ?_
          rcases gB_01 c e M (gp c e M (b + 2 + 2 * M) g + 1) with z | z
          · rw [eF, if_pos z] at m1
            exact bad _ _ _ m1 x205 (fun b' i q1 q2 => by rw [f205 b' i q1 q2, up_off (by omega)]; exact f2 b' i q1 q2)
          · exact absurd z p205
      refine wk_aload_n (i := 0) (q := 157) dX7_readTable_156 rfl rfl rfl ?_
      refine wk_getI (fi := 20) (q := 160) dX7_readTable_157 rfl fl_X7_155 rfl rfl hM.ob ?_
      refine wk_iconst (q := 161) dX7_readTable_160 rfl ?_
      refine wk_icmp_lt (t := 172) (q := 164) dX7_readTable_161 rfl rfl (by omega) (by omega) (fun hc161 => ?_) (fun hc161 => ?_)
      · refine wk_aload_n (i := 0) (q := 173) dX7_readTable_172 rfl rfl rfl ?_
        refine wk_getI (fi := 20) (q := 176) dX7_readTable_173 rfl fl_X7_155 rfl rfl hM.ob ?_
        refine wk_bipush (q := 178) dX7_readTable_176 rfl (by decide +kernel) ?_
        refine wk_icmp_eq (t := 191) (q := 181) dX7_readTable_178 rfl rfl (by omega) (by omega) (fun hc178 => ?_) (fun hc178 => ?_)
        · refine wk_iconst (q := 192) dX7_readTable_191 rfl ?_
          refine wk_zret dX7_readTable_192 rfl (by omega) ⟨Nat.le_refl _, Nat.le_refl _⟩ rfl ?_
          first
          | (exfalso; omega)
          | (by_cases q : e ≤ gp c e M (b + 2 + 2 * M) g
             · have z := done q
               rw [if_neg (by omega)] at z
               exact bad _ _ _ z f1 f2
             · have m1 := more q
               rw [gF_0 hv185, if_pos rfl] at m1
               exact bad _ _ _ m1 f1 f2)
        · refine wk_aload_n (i := 0) (q := 182) dX7_readTable_181 rfl rfl rfl ?_
          refine wk_bipush (q := 184) dX7_readTable_182 rfl (by decide +kernel) ?_
          refine wk_iload_n (i := 1) (q := 185) dX7_readTable_184 rfl rfl rfl ?_
          refine wk_cP2 (q := 188) dX7_readTable_185 rfl vl_X7_170 ⟨_, _, rfl⟩ hM.ob (ct_X7_isCode hM f1 (by omega)) (qRo_m ok_X7_isCode (by decide) (Nat.le_refl _) (Nat.le_refl _)) (Nat.le_of_ble_eq_true rfl) (fun v185 hv185 => ?_)
          rcases hv185 with ⟨rfl, hv185⟩ | ⟨rfl, hv185⟩
          · refine wk_if_ne (t := 193) (q := 191) dX7_readTable_188 rfl rfl (by omega) (fun _ => ?_) (fun hq => absurd hq (by decide))
            exact cont hv185
          · refine wk_if_ne (t := 193) (q := 191) dX7_readTable_188 rfl rfl (by omega) (fun hq => absurd hq (by decide)) (fun _ => ?_)
            refine wk_iconst (q := 192) dX7_readTable_191 rfl ?_
            refine wk_zret dX7_readTable_192 rfl (by omega) ⟨Nat.le_refl _, Nat.le_refl _⟩ rfl ?_
            first
            | (exfalso; omega)
            | (by_cases q : e ≤ gp c e M (b + 2 + 2 * M) g
               · have z := done q
                 rw [if_neg (by omega)] at z
                 exact bad _ _ _ z f1 f2
               · have m1 := more q
                 rw [gF_0 hv185, if_pos rfl] at m1
                 exact bad _ _ _ m1 f1 f2)
      · refine wk_aload_n (i := 0) (q := 165) dX7_readTable_164 rfl rfl rfl ?_
        refine wk_getI (fi := 19) (q := 168) dX7_readTable_165 rfl fl_X7_131 rfl rfl hM.ob ?_
        refine wk_iload_n (i := 1) (q := 169) dX7_readTable_168 rfl rfl rfl ?_
        refine wk_icmp_ge (t := 213) (q := 172) dX7_readTable_169 rfl rfl (by omega) (by omega) (fun hc169 => ?_) (fun hc169 => ?_)
        · refine wk_iconst (q := 214) dX7_readTable_213 rfl ?_
          refine wk_zret dX7_readTable_214 rfl (by omega) ⟨Nat.le_refl _, Nat.le_refl _⟩ rfl ?_
          have z := done (by omega)
          rw [if_pos (by omega)] at z
          exact ⟨_, _, _, _, rfl, rfl, Or.inl ⟨rfl, rfl, rfl, by rw [z], by rw [z]; exact f1, f2, by rw [z]; exact f3, by rw [← hMe]; exact f4, by rw [← hMe]; exact f5, fun a ha => by rw [z] at ha; rw [← hMe]; exact f6 a ha⟩⟩
        · refine wk_aload_n (i := 0) (q := 173) dX7_readTable_172 rfl rfl rfl ?_
          refine wk_getI (fi := 20) (q := 176) dX7_readTable_173 rfl fl_X7_155 rfl rfl hM.ob ?_
          refine wk_bipush (q := 178) dX7_readTable_176 rfl (by decide +kernel) ?_
          refine wk_icmp_eq (t := 191) (q := 181) dX7_readTable_178 rfl rfl (by omega) (by omega) (fun hc178 => ?_) (fun hc178 => ?_)
          · refine wk_iconst (q := 192) dX7_readTable_191 rfl ?_
            refine wk_zret dX7_readTable_192 rfl (by omega) ⟨Nat.le_refl _, Nat.le_refl _⟩ rfl ?_
            first
            | (exfalso; omega)
            | (by_cases q : e ≤ gp c e M (b + 2 + 2 * M) g
               · have z := done q
                 rw [if_neg (by omega)] at z
                 exact bad _ _ _ z f1 f2
               · have m1 := more q
                 rw [gF_0 hv185, if_pos rfl] at m1
                 exact bad _ _ _ m1 f1 f2)
          · refine wk_aload_n (i := 0) (q := 182) dX7_readTable_181 rfl rfl rfl ?_
            refine wk_bipush (q := 184) dX7_readTable_182 rfl (by decide +kernel) ?_
            refine wk_iload_n (i := 1) (q := 185) dX7_readTable_184 rfl rfl rfl ?_
            refine wk_cP2 (q := 188) dX7_readTable_185 rfl vl_X7_170 ⟨_, _, rfl⟩ hM.ob (ct_X7_isCode hM f1 (by omega)) (qRo_m ok_X7_isCode (by decide) (Nat.le_refl _) (Nat.le_refl _)) (Nat.le_of_ble_eq_true rfl) (fun v185 hv185 => ?_)
            rcases hv185 with ⟨rfl, hv185⟩ | ⟨rfl, hv185⟩
            · refine wk_if_ne (t := 193) (q := 191) dX7_readTable_188 rfl rfl (by omega) (fun _ => ?_) (fun hq => absurd hq (by decide))
              exact cont hv185
            · refine wk_if_ne (t := 193) (q := 191) dX7_readTable_188 rfl rfl (by omega) (fun hq => absurd hq (by decide)) (fun _ => ?_)
              refine wk_iconst (q := 192) dX7_readTable_191 rfl ?_
              refine wk_zret dX7_readTable_192 rfl (by omega) ⟨Nat.le_refl _, Nat.le_refl _⟩ rfl ?_
              first
              | (exfalso; omega)
              | (by_cases q : e ≤ gp c e M (b + 2 + 2 * M) g
                 · have z := done q
                   rw [if_neg (by omega)] at z
                   exact bad _ _ _ z f1 f2
                 · have m1 := more q
                   rw [gF_0 hv185, if_pos rfl] at m1
                   exact bad _ _ _ m1 f1 f2)
  have loopD : (b < e ∧ c b = 100) → dgOk c e (b + 1) 2 6 → ∀ M : Nat, M = mOf c b → 2 ≤ M ∧ M ≤ 6 → ∀ j : Nat, j ≤ M → fstN (dsB c e (b + 2)) (2 * j) = 2 * j → ∀ I1 : qI, txM I1 m k c e (b + 2 + 2 * j) → frH I m I1 → I1 m 21 = (M : Int) → dsD c b m j I1 → Wk l E (qmo E 3 n 0 0 (qZ n sh (rdM L R m k c e ((rdR c b e).1 = 1) (rdR c b e).2.1 (rdR c b e).2.1 (fun I' => frH I m I' ∧ I' m 20 = ((rdR c b e).2.2 : Int) ∧ I' m 21 = (mOf c b : Int) ∧ dsD c b m (mOf c b) I' ∧ ∀ a : Nat, a < (rdR c b e).2.2 → gdM c (mOf c b) m (gp c e (mOf c b) (b + 2 + 2 * mOf c b) a + 1) (a : Int) I') (frH I m)))) mX7_readTable 0 0 62
      [(0, .ref m), (1, .int (zI (100 * k + e))), (2, .int (zI (j : Int)))] [] (n, sh, I1, L, R) := by
    intro p1 p2 M hMe hM2
    refine up_ind M ?_ ?_
    · intro hf I1 f1 f2 f3 f4
      have p3 : dgOk c e (b + 1) 2 6 ∧ fstN (dsB c e (b + 2)) (2 * mOf c b) = 2 * mOf c b := ⟨p2, by rw [← hMe]; exact hf⟩
      have er := rdR_2 p1 p3
      rw [← hMe] at er
      refine wk_iload_n (i := 2) (q := 63) dX7_readTable_62 rfl rfl rfl ?_
      refine wk_aload_n (i := 0) (q := 64) dX7_readTable_63 rfl rfl rfl ?_
      refine wk_getI (fi := 21) (q := 67) dX7_readTable_64 rfl fl_X7_158 rfl rfl hM.ob ?_
      refine wk_icmp_ge (t := 151) (q := 70) dX7_readTable_67 rfl rfl (by omega) (by omega) (fun hc67 => ?_) (fun hc67 => ?_)
      · refine wk_aload_n (i := 0) (q := 152) dX7_readTable_151 rfl rfl rfl ?_
        refine wk_iconst (q := 153) dX7_readTable_152 rfl ?_
        refine wk_putI (fi := 20) (q := 156) dX7_readTable_153 rfl fl_X7_155 fw_7_20 rfl rfl hM.ob ?_
        refine wk_del (i := 2) (lo' := [(0, _), (1, _)]) rfl ?_
        exact loopG p1 p3 M hMe hM2 7 0 rfl er.symm _ (f1.fr (fun i => up_na _ _ _ _ (by omega)) (up_ni _ _ (by omega))) (fun b' i q1 q2 => by rw [up_off (by omega)]; exact f2 b' i q1 q2) (up_eq _ _ _ _) (by rw [up_ni _ _ (by omega)]; exact f3) (fun i hi => by rw [up_na _ _ _ _ (by omega), up_na _ _ _ _ (by omega)]; exact f4 i hi) (fun a ha => absurd ha (by omega)) _ rfl
      · omega
    · intro j hj ih hf I1 f1 f2 f3 f4
      have x19 := f1.2.1
      have badD : ∀ (r : Nat) (I2 : qI), 2 * j ≤ r → r < 2 * M → fstN (dsB c e (b + 2)) r = r → dsB c e (b + 2) r = false → txM I2 m k c e (b + 2 + r) → frH I m I2 → qZ n sh (rdM L R m k c e ((rdR c b e).1 = 1) (rdR c b e).2.1 (rdR c b e).2.1 (fun I' => frH I m I' ∧ I' m 20 = ((rdR c b e).2.2 : Int) ∧ I' m 21 = (mOf c b : Int) ∧ dsD c b m (mOf c b) I' ∧ ∀ a : Nat, a < (rdR c b e).2.2 → gdM c (mOf c b) m (gp c e (mOf c b) (b + 2 + 2 * mOf c b) a + 1) (a : Int) I') (frH I m)) (some (.int (zI 0))) (n, sh, I2, L, R) := by
        intro r I2 r0 r1 s1 s2 s3 s4
        have st := fstN_stop' s1 s2 r1
        have er := rdR_1 p1 (fun q => by
          have q2 := q.2
          rw [← hMe, st] at q2
          omega)
        rw [if_neg (fun q => q p2), ← hMe, st] at er
        exact bad _ _ _ er s3 s4
      have mid : dgOk c e (b + 2 + 2 * (j : Int)) 1 9 → ∀ I2 : qI, txM I2 m k c e (b + 2 + 2 * (j : Int) + 1) → frH I m I2 → I2 m 21 = (M : Int) → dsD c b m j I2 → I2 (m + 13) (j : Int) = c (b + 2 + 2 * (j : Int)) - 48 → Wk l E (qmo E 3 n 0 0 (qZ n sh (rdM L R m k c e ((rdR c b e).1 = 1) (rdR c b e).2.1 (rdR c b e).2.1 (fun I' => frH I m I' ∧ I' m 20 = ((rdR c b e).2.2 : Int) ∧ I' m 21 = (mOf c b : Int) ∧ dsD c b m (mOf c b) I' ∧ ∀ a : Nat, a < (rdR c b e).2.2 → gdM c (mOf c b) m (gp c e (mOf c b) (b + 2 + 2 * mOf c b) a + 1) (a : Int) I') (frH I m)))) mX7_readTable 0 0 107
          [(0, .ref m), (1, .int (zI (100 * k + e))), (2, .int (zI (j : Int)))] [] (n, sh, I2, L, R) := by
        intro dg I2 k1 k2 k3 k4 k5
        have y19 := k1.2.1
        refine wk_aload_n (i := 0) (q := 108) dX7_readTable_107 rfl rfl rfl ?_
        refine wk_getR (fi := 23) (q := 111) dX7_readTable_108 rfl fl_X7_49 rfl rfl hM.ob hM.r23 ?_
        refine wk_iload_n (i := 2) (q := 112) dX7_readTable_111 rfl rfl rfl ?_
        refine wk_aload_n (i := 0) (q := 113) dX7_readTable_112 rfl rfl rfl ?_
        refine wk_aload_n (i := 0) (q := 114) dX7_readTable_113 rfl rfl rfl ?_
        refine wk_getI (fi := 19) (q := 117) dX7_readTable_114 rfl fl_X7_131 rfl rfl hM.ob ?_
        refine wk_iload_n (i := 1) (q := 118) dX7_readTable_117 rfl rfl rfl ?_
        rw [y19]
        refine wk_cP2 (q := 121) dX7_readTable_118 rfl vl_X7_174 ⟨_, _, rfl⟩ hM.ob (ct_X7_digitAt hM k1) (qRo_m ok_X7_digitAt (by decide) (Nat.le_refl _) (Nat.le_refl _)) (Nat.le_of_ble_eq_true rfl) (fun v118 hv118 => ?_)
        refine wk_iast (q := 122) dX7_readTable_121 rfl hM.s23 (by omega) ?_
        refine wk_aload_n (i := 0) (q := 123) dX7_readTable_122 rfl rfl rfl ?_
        refine wk_getR (fi := 23) (q := 126) dX7_readTable_123 rfl fl_X7_49 rfl rfl hM.ob hM.r23 ?_
        refine wk_iload_n (i := 2) (q := 127) dX7_readTable_126 rfl rfl rfl ?_
        refine wk_iald (q := 128) dX7_readTable_127 rfl hM.s23 (by omega) ?_
        refine wk_bipush (q := 130) dX7_readTable_128 rfl (by decide +kernel) ?_
        rw [up_eq]
        have hb : -9 ≤ v118 ∧ v118 ≤ 9 := by
          rw [hv118]
          split <;> omega
        refine wk_icmp_ne (t := 135) (q := 133) dX7_readTable_130 rfl rfl (by omega) (by omega) (fun hc130 => ?_) (fun hc130 => ?_)
        · refine wk_aload_n (i := 0) (q := 136) dX7_readTable_135 rfl rfl rfl ?_
          refine wk_dup (q := 137) dX7_readTable_136 rfl rfl ?_
          refine wk_getI (fi := 19) (q := 140) dX7_readTable_137 rfl fl_X7_131 rfl rfl hM.ob ?_
          refine wk_iconst (q := 141) dX7_readTable_140 rfl ?_
          refine wk_iadd (q := 142) dX7_readTable_141 rfl ?_
          refine wk_putI (fi := 19) (q := 145) dX7_readTable_142 rfl fl_X7_131 fw_7_19 rfl rfl hM.ob ?_
          refine wk_iinc (lo' := [(0, _), (1, _), (2, _)]) (q := 148) dX7_readTable_145 rfl rfl (by decide) rfl ?_
          refine wk_goto (t := 62) dX7_readTable_148 rfl ?_
          have dg2 : dgOk c e (b + 2 + 2 * (j : Int) + 1) 0 9 := by
            by_cases q : dgOk c e (b + 2 + 2 * (j : Int) + 1) 0 9
            · exact q
            · rw [if_neg q] at hv118
              omega
          rw [if_pos dg2] at hv118
          refine ih (by rw [show 2 * (j + 1) = 2 * j + 1 + 1 by omega]; exact fstN_go (fstN_go hf (dsB_e.mpr dg)) (dsB_o.mpr dg2)) _ (k1.up (fun i => by rw [up_na _ _ _ _ (by omega), up_na _ _ _ _ (by omega)]) (by rw [up_eq, up_na _ _ _ _ (by omega), y19]; omega) (by omega)) (fun b' i q1 q2 => by rw [up_off (by omega), up_off (by omega)]; exact k2 b' i q1 q2) (by rw [up_ni _ _ (by omega), up_na _ _ _ _ (by omega)]; exact k3) (fun i hi => ?_)
          rw [up_na _ _ _ _ (by omega), up_na _ _ _ _ (by omega), up_na _ _ _ _ (by omega)]
          by_cases q : i = j
          · subst q
            rw [up_eq, hv118, show b + 2 + 2 * (i : Int) + 1 = b + 3 + 2 * (i : Int) by omega]
            exact ⟨k5, rfl⟩
          · rw [up_ni _ _ (by omega)]
            exact k4 i (by omega)
        · refine wk_iconst (q := 134) dX7_readTable_133 rfl ?_
          refine wk_zret dX7_readTable_134 rfl (by omega) ⟨Nat.le_refl _, Nat.le_refl _⟩ rfl ?_
          have dg2 : ¬ dgOk c e (b + 2 + 2 * (j : Int) + 1) 0 9 := fun q => by
            rw [if_pos q] at hv118
            omega
          exact badD (2 * j + 1) _ (by omega) (by omega) (fstN_go hf (dsB_e.mpr dg)) (by cases z : dsB c e (b + 2) (2 * j + 1) with
            | false => rfl
            | true => exact absurd (dsB_o.mp z) dg2) (by rw [show b + 2 + ((2 * j + 1 : Nat) : Int) = b + 2 + 2 * (j : Int) + 1 by omega]; exact k1.fr (fun i => up_na _ _ _ _ (by omega)) (up_na _ _ _ _ (by omega))) (fun b' i q1 q2 => by rw [up_na _ _ _ _ (by omega)]; exact k2 b' i q1 q2)
      refine wk_iload_n (i := 2) (q := 63) dX7_readTable_62 rfl rfl rfl ?_
      refine wk_aload_n (i := 0) (q := 64) dX7_readTable_63 rfl rfl rfl ?_
      refine wk_getI (fi := 21) (q := 67) dX7_readTable_64 rfl fl_X7_158 rfl rfl hM.ob ?_
      refine wk_icmp_ge (t := 151) (q := 70) dX7_readTable_67 rfl rfl (by omega) (by omega) (fun hc67 => ?_) (fun hc67 => ?_)
      · omega
      · refine wk_aload_n (i := 0) (q := 71) dX7_readTable_70 rfl rfl rfl ?_
        refine wk_getR (fi := 22) (q := 74) dX7_readTable_71 rfl fl_X7_46 rfl rfl hM.ob hM.r22 ?_
        refine wk_iload_n (i := 2) (q := 75) dX7_readTable_74 rfl rfl rfl ?_
        refine wk_aload_n (i := 0) (q := 76) dX7_readTable_75 rfl rfl rfl ?_
        refine wk_aload_n (i := 0) (q := 77) dX7_readTable_76 rfl rfl rfl ?_
        refine wk_getI (fi := 19) (q := 80) dX7_readTable_77 rfl fl_X7_131 rfl rfl hM.ob ?_
        refine wk_iload_n (i := 1) (q := 81) dX7_readTable_80 rfl rfl rfl ?_
        rw [x19]
        refine wk_cP2 (q := 84) dX7_readTable_81 rfl vl_X7_174 ⟨_, _, rfl⟩ hM.ob (ct_X7_digitAt hM f1) (qRo_m ok_X7_digitAt (by decide) (Nat.le_refl _) (Nat.le_refl _)) (Nat.le_of_ble_eq_true rfl) (fun v81 hv81 => ?_)
        refine wk_iast (q := 85) dX7_readTable_84 rfl hM.s22 (by omega) ?_
        refine wk_aload_n (i := 0) (q := 86) dX7_readTable_85 rfl rfl rfl ?_
        refine wk_getR (fi := 22) (q := 89) dX7_readTable_86 rfl fl_X7_46 rfl rfl hM.ob hM.r22 ?_
        refine wk_iload_n (i := 2) (q := 90) dX7_readTable_89 rfl rfl rfl ?_
        refine wk_iald (q := 91) dX7_readTable_90 rfl hM.s22 (by omega) ?_
        refine wk_iconst (q := 92) dX7_readTable_91 rfl ?_
        rw [up_eq]
        have hb : -9 ≤ v81 ∧ v81 ≤ 9 := by
          rw [hv81]
          split <;> omega
        refine wk_icmp_ge (t := 97) (q := 95) dX7_readTable_92 rfl rfl (by omega) (by omega) (fun hc92 => ?_) (fun hc92 => ?_)
        · refine wk_aload_n (i := 0) (q := 98) dX7_readTable_97 rfl rfl rfl ?_
          refine wk_dup (q := 99) dX7_readTable_98 rfl rfl ?_
          refine wk_getI (fi := 19) (q := 102) dX7_readTable_99 rfl fl_X7_131 rfl rfl hM.ob ?_
          refine wk_iconst (q := 103) dX7_readTable_102 rfl ?_
          refine wk_iadd (q := 104) dX7_readTable_103 rfl ?_
          refine wk_putI (fi := 19) (q := 107) dX7_readTable_104 rfl fl_X7_131 fw_7_19 rfl rfl hM.ob ?_
          have dg : dgOk c e (b + 2 + 2 * (j : Int)) 0 9 := by
            by_cases q : dgOk c e (b + 2 + 2 * (j : Int)) 0 9
            · exact q
            · rw [if_neg q] at hv81
              omega
          rw [if_pos dg] at hv81
          exact mid (by omega) _ (f1.up (fun i => by rw [up_na _ _ _ _ (by omega), up_na _ _ _ _ (by omega)]) (by rw [up_eq, up_na _ _ _ _ (by omega), x19]; omega) (by omega)) (fun b' i q1 q2 => by rw [up_off (by omega), up_off (by omega)]; exact f2 b' i q1 q2) (by rw [up_ni _ _ (by omega), up_na _ _ _ _ (by omega)]; exact f3) (fun i hi => ⟨by rw [up_na _ _ _ _ (by omega), up_ni _ _ (by omega)]; exact (f4 i hi).1, by rw [up_na _ _ _ _ (by omega), up_na _ _ _ _ (by omega)]; exact (f4 i hi).2⟩) (by rw [up_na _ _ _ _ (by omega), up_eq]; exact hv81)
        · refine wk_iconst (q := 96) dX7_readTable_95 rfl ?_
          refine wk_zret dX7_readTable_96 rfl (by omega) ⟨Nat.le_refl _, Nat.le_refl _⟩ rfl ?_
          have dg : ¬ dgOk c e (b + 2 + 2 * (j : Int)) 1 9 := fun q => by
            rw [if_pos (show dgOk c e (b + 2 + 2 * (j : Int)) 0 9 by omega)] at hv81
            omega
          exact badD (2 * j) _ (Nat.le_refl _) (by omega) hf (by cases z : dsB c e (b + 2) (2 * j) with
            | false => rfl
            | true => exact absurd (dsB_e.mp z) dg) (by rw [show b + 2 + ((2 * j : Nat) : Int) = b + 2 + 2 * (j : Int) by omega]; exact f1.fr (fun i => up_na _ _ _ _ (by omega)) (up_na _ _ _ _ (by omega))) (fun b' i q1 q2 => by rw [up_na _ _ _ _ (by omega)]; exact f2 b' i q1 q2)
  have at22 : (b < e ∧ c b = 100) → ∀ I1 : qI, txM I1 m k c e (b + 1) → frH I m I1 → Wk l E (qmo E 3 n 0 0 (qZ n sh (rdM L R m k c e ((rdR c b e).1 = 1) (rdR c b e).2.1 (rdR c b e).2.1 (fun I' => frH I m I' ∧ I' m 20 = ((rdR c b e).2.2 : Int) ∧ I' m 21 = (mOf c b : Int) ∧ dsD c b m (mOf c b) I' ∧ ∀ a : Nat, a < (rdR c b e).2.2 → gdM c (mOf c b) m (gp c e (mOf c b) (b + 2 + 2 * mOf c b) a + 1) (a : Int) I') (frH I m)))) mX7_readTable 0 0 22
      [(0, .ref m), (1, .int (zI (100 * k + e)))] [] (n, sh, I1, L, R) := by
    intro p1 I1 f1 f2
    have x19 := f1.2.1
    refine wk_aload_n (i := 0) (q := 23) dX7_readTable_22 rfl rfl rfl ?_
    refine wk_aload_n (i := 0) (q := 24) dX7_readTable_23 rfl rfl rfl ?_
    refine wk_aload_n (i := 0) (q := 25) dX7_readTable_24 rfl rfl rfl ?_
    refine wk_getI (fi := 19) (q := 28) dX7_readTable_25 rfl fl_X7_131 rfl rfl hM.ob ?_
    refine wk_iload_n (i := 1) (q := 29) dX7_readTable_28 rfl rfl rfl ?_
    rw [x19]
    refine wk_cP2 (q := 32) dX7_readTable_29 rfl vl_X7_174 ⟨_, _, rfl⟩ hM.ob (ct_X7_digitAt hM f1) (qRo_m ok_X7_digitAt (by decide) (Nat.le_refl _) (Nat.le_refl _)) (Nat.le_of_ble_eq_true rfl) (fun v29 hv29 => ?_)
    have hb : -9 ≤ v29 ∧ v29 ≤ 9 := by
      rw [hv29]
      split <;> omega
    refine wk_putI (fi := 21) (q := 35) dX7_readTable_32 rfl fl_X7_158 fw_7_21 rfl rfl hM.ob ?_
    refine wk_aload_n (i := 0) (q := 36) dX7_readTable_35 rfl rfl rfl ?_
    refine wk_getI (fi := 21) (q := 39) dX7_readTable_36 rfl fl_X7_158 rfl rfl hM.ob ?_
    refine wk_iconst (q := 40) dX7_readTable_39 rfl ?_
    refine wk_bipush (q := 42) dX7_readTable_40 rfl (by decide +kernel) ?_
    rw [up_eq]
    refine wk_sP3 (q := 45) dX7_readTable_42 rfl sl_X7_121 (ct_X7_within (by omega) (by omega) (by omega)) (qRo_m ok_X7_within (by decide) (Nat.le_refl _) (Nat.le_refl _)) (Nat.le_of_ble_eq_true rfl) (fun v42 hv42 => ?_)
    rcases hv42 with ⟨rfl, hv42⟩ | ⟨rfl, hv42⟩
    · refine wk_if_ne (t := 50) (q := 48) dX7_readTable_45 rfl rfl (by omega) (fun _ => ?_) (fun hq => absurd hq (by decide))
      refine wk_aload_n (i := 0) (q := 51) dX7_readTable_50 rfl rfl rfl ?_
      refine wk_dup (q := 52) dX7_readTable_51 rfl rfl ?_
      refine wk_getI (fi := 19) (q := 55) dX7_readTable_52 rfl fl_X7_131 rfl rfl hM.ob ?_
      refine wk_iconst (q := 56) dX7_readTable_55 rfl ?_
      refine wk_iadd (q := 57) dX7_readTable_56 rfl ?_
      refine wk_putI (fi := 19) (q := 60) dX7_readTable_57 rfl fl_X7_131 fw_7_19 rfl rfl hM.ob ?_
      refine wk_iconst (q := 61) dX7_readTable_60 rfl ?_
      refine wk_istore_n (i := 2) (lo' := [(0, _), (1, _), (2, _)]) (q := 62) dX7_readTable_61 rfl rfl (by decide) rfl ?_
      have dg : dgOk c e (b + 1) 0 9 := by
        by_cases q : dgOk c e (b + 1) 0 9
        · exact q
        · rw [if_neg q] at hv29
          omega
      rw [if_pos dg] at hv29
      have hm : (mOf c b : Int) = c (b + 1) - 48 := by unfold mOf; omega
      refine loopD p1 (by omega) (mOf c b) rfl (by omega) 0 (Nat.zero_le _) rfl _ (f1.up (fun i => by rw [up_na _ _ _ _ (by omega), up_na _ _ _ _ (by omega)]) (by rw [up_eq, up_ni _ _ (by omega), x19]; omega) (by omega)) (fun b' i q1 q2 => by rw [up_off (by omega), up_off (by omega)]; exact f2 b' i q1 q2) (by rw [up_ni _ _ (by omega), up_eq]; omega) (fun i hi => absurd hi (by omega))
    · refine wk_if_ne (t := 50) (q := 48) dX7_readTable_45 rfl rfl (by omega) (fun hq => absurd hq (by decide)) (fun _ => ?_)
      refine wk_iconst (q := 49) dX7_readTable_48 rfl ?_
      refine wk_zret dX7_readTable_49 rfl (by omega) ⟨Nat.le_refl _, Nat.le_refl _⟩ rfl ?_
      have dg : ¬ dgOk c e (b + 1) 2 6 := fun q => by
        rw [if_pos (show dgOk c e (b + 1) 0 9 by omega)] at hv29
        omega
      have er := rdR_1 p1 (fun q => dg q.1)
      rw [if_pos dg] at er
      exact bad _ _ _ er (f1.fr (fun i => up_na _ _ _ _ (by omega)) (up_ni _ _ (by omega))) (fun b' i q1 q2 => by rw [up_off (by omega)]; exact f2 b' i q1 q2)
  refine Ct.of (lo := [(0, _), (1, _)]) ok_X7_readTable (Nat.le_of_ble_eq_true rfl) rfl ?_
  refine wk_aload_n (i := 0) (q := 1) dX7_readTable_0 rfl rfl rfl ?_
  refine wk_bipush (q := 3) dX7_readTable_1 rfl (by decide +kernel) ?_
  refine wk_iload_n (i := 1) (q := 4) dX7_readTable_3 rfl rfl rfl ?_
  refine wk_cP2 (q := 7) dX7_readTable_4 rfl vl_X7_170 ⟨_, _, rfl⟩ hM.ob (ct_X7_isCode hM h (by omega)) (qRo_m ok_X7_isCode (by decide) (Nat.le_refl _) (Nat.le_refl _)) (Nat.le_of_ble_eq_true rfl) (fun v4 hv4 => ?_)
  rcases hv4 with ⟨rfl, hv4⟩ | ⟨rfl, hv4⟩
  · refine wk_if_ne (t := 12) (q := 10) dX7_readTable_7 rfl rfl (by omega) (fun _ => ?_) (fun hq => absurd hq (by decide))
    refine wk_aload_n (i := 0) (q := 13) dX7_readTable_12 rfl rfl rfl ?_
    refine wk_dup (q := 14) dX7_readTable_13 rfl rfl ?_
    refine wk_getI (fi := 19) (q := 17) dX7_readTable_14 rfl fl_X7_131 rfl rfl hM.ob ?_
    refine wk_iconst (q := 18) dX7_readTable_17 rfl ?_
    refine wk_iadd (q := 19) dX7_readTable_18 rfl ?_
    refine wk_putI (fi := 19) (q := 22) dX7_readTable_19 rfl fl_X7_131 fw_7_19 rfl rfl hM.ob ?_
    exact at22 hv4 _ (h.up (fun i => up_na _ _ _ _ (by omega)) (by rw [up_eq, h2]; omega) (by omega)) (fun b' i q1 q2 => up_off (by omega))
  · refine wk_if_ne (t := 12) (q := 10) dX7_readTable_7 rfl rfl (by omega) (fun hq => absurd hq (by decide)) (fun _ => ?_)
    refine wk_iconst (q := 11) dX7_readTable_10 rfl ?_
    refine wk_zret dX7_readTable_11 rfl (by omega) ⟨Nat.le_refl _, Nat.le_refl _⟩ rfl ?_
    exact bad _ _ _ (rdR_0 hv4) h (fun _ _ _ _ => rfl)
end TEXT6
