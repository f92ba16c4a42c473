theorem fold_ex {F : Nat → Nat → Int32} {n : Nat} {a : Int32} (hM : okC F n) (h : inB a 0 (nI n - 1) = true) : ∃ x, x < n ∧ a = nI x := by
  have h1 := hM.2.1
  rw [g6m rfl h1.1] at h
  obtain ⟨k, hk, e⟩ := inB_ex (by omega) h
  exact ⟨k, by omega, e⟩
theorem ent_ex {F : Nat → Nat → Int32} {n x : Nat} {a : Int32} (hM : okC F n) (hx : x < n) (h : inB a 0 (F 6 x - 1) = true) : ∃ y, y < i2n (F 6 x) ∧ a = nI y := by
  obtain ⟨h1, h2⟩ := okM.len hM hx
  generalize hK : i2n (F 6 x) = K at h1 h2 ⊢
  rw [h1] at h
  cases K with
  | zero =>
    have h3 := inB_lo h
    have h4 := inB_le h
    exact absurd (Int32.lt_of_le_of_lt h4 (show nI 0 - 1 < 0 by decide)) h3
  | succ k =>
    rw [g6m rfl (by omega)] at h
    obtain ⟨y, hy, e⟩ := inB_ex (by omega) h
    exact ⟨y, by omega, e⟩
set_option maxHeartbeats 800000 in
theorem pr_setMember {l : Launch} (hl0 : l.stackTraces = false) {D : va_G} {cI cZ cO cJ : ClassId} {F : Nat → Nat → Int32} {ik kp tu : Nat → Int32} {n : Nat} (hok : okS F ik kp tu n) {L : List Nat} {f : Nat → va_E} {tg : Nat → Nat} {AD : Nat → Nat → Nat} {mc : Nat → Int32} {he gv : Nat → Int32} {gp gb ob nm lo : Int32} (hR : Rep cI cO L f tg AD mc F ik kp tu n he gv gp gb ob nm lo) (hL : L.Nodup) {A : Nat → Prop} (hA : ∀ a, a ∈ L → A a) {z mi ou : Nat} {w : Nat → Int64} (hAz : ∀ q, z ≤ q → A q) (hne : ¬ A (AD 7 0)) (hou : ¬ A ou) {ad : Nat → Nat} {ow mp : Nat → Int32} {nm5 gb5 ob5 : Int32} {g : Nat → Int32} (hg : g 6 = nI n) {A2 : Nat → Prop} (hA2 : apD 16 A2 ad) (a1 : Int32) (a2 : Int32) (b : Bool) : PR l yL_setMember wsL_setMember yX5_setMember wsX5_setMember (rmr 2 42) D cI cZ cO cJ A L f (AD 0 0) (AD 7 0) z mi ou w ad A2 [.ref (AD 0 0), .int a1, .int a2, .int (b2i b), .ref ou] [.ref (ad 0), .int a1, .int a2, .int (b2i b)] lvZ F ow mp nm5 gb5 ob5 ik kp tu g := by
  obtain ⟨hM, hE, hB, hw6, hZ⟩ := id hok
  have hMg : okM F g n := ⟨hg, hM.2⟩
  have hn20 := hM.2.1
  have hC0 : ∀ H : Heap, va_P D vwCl (va_pl L f) H → CX D cI cO A (AD 0 0) (AD 7 0) F ik kp tu n H := fun H hP => ⟨he, gv, gp, gb, ob, nm, lo, L, f, tg, AD, mc, hL, hA, rfl, rfl, hP, hR⟩
  cases c1 : inB a1 0 5 with
  | false =>
    exact ⟨1, 0, F, ik, kp, tu, n, hok, hb_setMember_1 l D cI cZ cO cJ a1 a2 (b2i b) (c_x (x_setMember_a l hl0 D cI cZ cO hR a1 a2 b c1)) (by decide) (by decide) hR.x hou hL hA hC0, c_md (m_setMember_1 l D cI cZ ad A2 F ow mp nm5 gb5 ob5 ik kp tu g hA2 a1 a2 b (by rw [c1]; rfl)) hg rfl (fun h => absurd h (by decide))⟩
  | true =>
    obtain ⟨x, hx, rfl⟩ := inB_ex (N := 5) (by decide) c1
    cases c2 : inB a2 0 7 with
    | false =>
      exact ⟨1, 0, F, ik, kp, tu, n, hok, hb_setMember_1 l D cI cZ cO cJ (nI x) a2 (b2i b) (c_x (x_setMember_b l hl0 D cI cZ cO hR x a2 b (by omega) c2)) (by decide) (by decide) hR.x hou hL hA hC0, c_md (m_setMember_1 l D cI cZ ad A2 F ow mp nm5 gb5 ob5 ik kp tu g hA2 (nI x) a2 b (by rw [c2, Bool.and_false])) hg rfl (fun h => absurd h (by decide))⟩
    | true =>
      obtain ⟨y, hy, rfl⟩ := inB_ex (N := 7) (by decide) c2
      exact ⟨0, b2i (hasB (F 1 x) (nI y)), _, _, _, _, _, hok.set1 _, hg_setMember l D cI cZ cO cJ (nI x) (nI y) (b2i b) (c_wr (k_X4_setMember l D cI cZ cO hR A hL hA x y b (by omega) (by omega) hw6) hL hA rfl rfl) ⟨rfl, rfl, by decide, by decide, by decide, by decide⟩ hR.x hou, c_md (m_setMember l D cI cZ ad A2 F ow mp nm5 gb5 ob5 ik kp tu g hA2 x y b (by omega) (by omega)) hg rfl (fun _ => rfl)⟩
set_option maxHeartbeats 800000 in
theorem pr_nest {l : Launch} (hl0 : l.stackTraces = false) {D : va_G} {cI cZ cO cJ : ClassId} {F : Nat → Nat → Int32} {ik kp tu : Nat → Int32} {n : Nat} (hok : okS F ik kp tu n) {L : List Nat} {f : Nat → va_E} {tg : Nat → Nat} {AD : Nat → Nat → Nat} {mc : Nat → Int32} {he gv : Nat → Int32} {gp gb ob nm lo : Int32} (hR : Rep cI cO L f tg AD mc F ik kp tu n he gv gp gb ob nm lo) (hL : L.Nodup) {A : Nat → Prop} (hA : ∀ a, a ∈ L → A a) {z mi ou : Nat} {w : Nat → Int64} (hAz : ∀ q, z ≤ q → A q) (hne : ¬ A (AD 7 0)) (hou : ¬ A ou) {ad : Nat → Nat} {ow mp : Nat → Int32} {nm5 gb5 ob5 : Int32} {g : Nat → Int32} (hg : g 6 = nI n) {A2 : Nat → Prop} (hA2 : apD 16 A2 ad) (a1 : Int32) (a2 : Int32) : PR l yL_nest wsL_nest yX5_nest wsX5_nest (rmr 2 45) D cI cZ cO cJ A L f (AD 0 0) (AD 7 0) z mi ou w ad A2 [.ref (AD 0 0), .int a1, .int a2, .ref ou] [.ref (ad 0), .int a1, .int a2] lvZ F ow mp nm5 gb5 ob5 ik kp tu g := by
  obtain ⟨hM, hE, hB, hw6, hZ⟩ := id hok
  have hMg : okM F g n := ⟨hg, hM.2⟩
  have hn20 := hM.2.1
  have hC0 : ∀ H : Heap, va_P D vwCl (va_pl L f) H → CX D cI cO A (AD 0 0) (AD 7 0) F ik kp tu n H := fun H hP => ⟨he, gv, gp, gb, ob, nm, lo, L, f, tg, AD, mc, hL, hA, rfl, rfl, hP, hR⟩
  cases c1 : inB a1 0 5 with
  | false =>
    exact ⟨1, 0, F, ik, kp, tu, n, hok, hb_nest_1 l D cI cZ cO cJ a1 a2 (c_x (x_nest_a l hl0 D cI cZ cO hR a1 a2 c1)) (by decide) (by decide) hR.x hou hL hA hC0, c_md (m_nest_1 l D cI cZ ad A2 F ow mp nm5 gb5 ob5 ik kp tu g hA2 a1 a2 (by rw [c1]; rfl)) hg rfl (fun h => absurd h (by decide))⟩
  | true =>
    obtain ⟨x, hx, rfl⟩ := inB_ex (N := 5) (by decide) c1
    cases c2 : inB a2 0 5 with
    | false =>
      exact ⟨1, 0, F, ik, kp, tu, n, hok, hb_nest_1 l D cI cZ cO cJ (nI x) a2 (c_x (x_nest_b l hl0 D cI cZ cO hR x a2 (by omega) c2)) (by decide) (by decide) hR.x hou hL hA hC0, c_md (m_nest_1 l D cI cZ ad A2 F ow mp nm5 gb5 ob5 ik kp tu g hA2 (nI x) a2 (by rw [c2, Bool.and_false])) hg rfl (fun h => absurd h (by decide))⟩
    | true =>
      obtain ⟨y, hy, rfl⟩ := inB_ex (N := 5) (by decide) c2
      have h65 : hasB (grnds (F 2) ((1 : Int32) <<< (nI y &&& 31)) 6) (nI x) = hasB (cRch (F 2) y) (nI x) := by unfold cRch; rw [grnds_6 hw6 (by omega)]
      cases c3 : hasB (cRch (F 2) y) (nI x) with
      | true =>
        exact ⟨2, 0, F, ik, kp, tu, n, hok, hb_nest_2 l D cI cZ cO cJ (nI x) (nI y) (c_x (x_nest_c l hl0 D cI cZ cO hR x y (by omega) (by omega) c3)) (by decide) (by decide) hR.x hou hL hA hC0, c_md (m_nest_2 l D cI cZ ad A2 F ow mp nm5 gb5 ob5 ik kp tu g hA2 x y (by omega) (by omega) (h65.trans c3)) hg rfl (fun h => absurd h (by decide))⟩
      | false =>
        exact ⟨0, b2i (hasB (F 2 x ^^^ ((1 : Int32) <<< (nI y &&& 31))) (nI y)), _, _, _, _, _, hok.set2 (low_nest hw6 x (by omega)), hg_nest l D cI cZ cO cJ (nI x) (nI y) (c_wr (k_X4_nest l D cI cZ cO hR A hL hA x y (by omega) (by omega) hw6 c3) hL hA rfl rfl) ⟨rfl, rfl, by decide, by decide, by decide, by decide⟩ hR.x hou, c_md (m_nest l D cI cZ ad A2 F ow mp nm5 gb5 ob5 ik kp tu g hA2 x y (by omega) (by omega) (h65.trans c3)) hg rfl (fun _ => rfl)⟩
set_option maxHeartbeats 800000 in
theorem pr_members {l : Launch} (hl0 : l.stackTraces = false) {D : va_G} {cI cZ cO cJ : ClassId} {F : Nat → Nat → Int32} {ik kp tu : Nat → Int32} {n : Nat} (hok : okS F ik kp tu n) {L : List Nat} {f : Nat → va_E} {tg : Nat → Nat} {AD : Nat → Nat → Nat} {mc : Nat → Int32} {he gv : Nat → Int32} {gp gb ob nm lo : Int32} (hR : Rep cI cO L f tg AD mc F ik kp tu n he gv gp gb ob nm lo) (hL : L.Nodup) {A : Nat → Prop} (hA : ∀ a, a ∈ L → A a) {z mi ou : Nat} {w : Nat → Int64} (hAz : ∀ q, z ≤ q → A q) (hne : ¬ A (AD 7 0)) (hou : ¬ A ou) {ad : Nat → Nat} {ow mp : Nat → Int32} {nm5 gb5 ob5 : Int32} {g : Nat → Int32} (hg : g 6 = nI n) {A2 : Nat → Prop} (hA2 : apD 16 A2 ad) (a1 : Int32) : PR l yL_members wsL_members yX5_members wsX5_members (rmr 3 69) D cI cZ cO cJ A L f (AD 0 0) (AD 7 0) z mi ou w ad A2 [.ref (AD 0 0), .int a1, .ref ou] [.ref (ad 0), .int a1] lvI F ow mp nm5 gb5 ob5 ik kp tu g := by
  obtain ⟨hM, hE, hB, hw6, hZ⟩ := id hok
  have hMg : okM F g n := ⟨hg, hM.2⟩
  have hn20 := hM.2.1
  have hC0 : ∀ H : Heap, va_P D vwCl (va_pl L f) H → CX D cI cO A (AD 0 0) (AD 7 0) F ik kp tu n H := fun H hP => ⟨he, gv, gp, gb, ob, nm, lo, L, f, tg, AD, mc, hL, hA, rfl, rfl, hP, hR⟩
  cases c1 : inB a1 0 5 with
  | false =>
    exact ⟨1, 0, F, ik, kp, tu, n, hok, hb_members_1 l D cI cZ cO cJ a1 (c_x (x_members l hl0 D cI cZ cO hR a1 c1)) (by decide) (by decide) hR.x hou hL hA hC0, c_md (m_members_1 l D cI cZ ad A2 F ow mp nm5 gb5 ob5 ik kp tu g hA2 a1 c1) hg rfl (fun h => absurd h (by decide))⟩
  | true =>
    obtain ⟨x, hx, rfl⟩ := inB_ex (N := 5) (by decide) c1
    exact ⟨0, mMem F x, _, _, _, _, _, hok, hg_members l D cI cZ cO cJ (nI x) (c_read (k_X4_members l D cI cZ cO hR x (by omega)) hC0) ⟨rfl, rfl, by decide, by decide, by decide, by decide⟩ hR.x hou, c_md (m_members l D cI cZ ad A2 F ow mp nm5 gb5 ob5 ik kp tu g hA2 x (by omega)) hg rfl (fun _ => rfl)⟩
set_option maxHeartbeats 800000 in
theorem pr_addFolder {l : Launch} (hl0 : l.stackTraces = false) {D : va_G} {cI cZ cO cJ : ClassId} {F : Nat → Nat → Int32} {ik kp tu : Nat → Int32} {n : Nat} (hok : okS F ik kp tu n) {L : List Nat} {f : Nat → va_E} {tg : Nat → Nat} {AD : Nat → Nat → Nat} {mc : Nat → Int32} {he gv : Nat → Int32} {gp gb ob nm lo : Int32} (hR : Rep cI cO L f tg AD mc F ik kp tu n he gv gp gb ob nm lo) (hL : L.Nodup) {A : Nat → Prop} (hA : ∀ a, a ∈ L → A a) {z mi ou : Nat} {w : Nat → Int64} (hAz : ∀ q, z ≤ q → A q) (hne : ¬ A (AD 7 0)) (hou : ¬ A ou) {ad : Nat → Nat} {ow mp : Nat → Int32} {nm5 gb5 ob5 : Int32} {g : Nat → Int32} (hg : g 6 = nI n) {A2 : Nat → Prop} (hA2 : apD 16 A2 ad) (a1 : Int32) (a2 : Int32) : PR l yL_addFolder wsL_addFolder yX5_addFolder wsX5_addFolder (rmr 2 43) D cI cZ cO cJ A L f (AD 0 0) (AD 7 0) z mi ou w ad A2 [.ref (AD 0 0), .int a1, .int a2, .ref ou] [.ref (ad 0), .int a1, .int a2] lvI F ow mp nm5 gb5 ob5 ik kp tu g := by
  obtain ⟨hM, hE, hB, hw6, hZ⟩ := id hok
  have hMg : okM F g n := ⟨hg, hM.2⟩
  have hn20 := hM.2.1
  have hC0 : ∀ H : Heap, va_P D vwCl (va_pl L f) H → CX D cI cO A (AD 0 0) (AD 7 0) F ik kp tu n H := fun H hP => ⟨he, gv, gp, gb, ob, nm, lo, L, f, tg, AD, mc, hL, hA, rfl, rfl, hP, hR⟩
  cases c1 : inB a1 0 (nI n - 1) with
  | false =>
    exact ⟨1, 0, F, ik, kp, tu, n, hok, hb_addFolder_1 l D cI cZ cO cJ a1 a2 (c_x (x_addFolder_a l hl0 D cI cZ cO hR a1 a2 hM c1)) (by decide) (by decide) hR.x hou hL hA hC0, c_md (m_addFolder_1 l D cI cZ ad A2 F ow mp nm5 gb5 ob5 ik kp tu g hA2 a1 a2 (by rw [hg, c1]; rfl)) hg rfl (fun h => absurd h (by decide))⟩
  | true =>
    obtain ⟨x, hx, rfl⟩ := fold_ex hM c1
    cases c2 : inB a2 0 7 with
    | false =>
      exact ⟨1, 0, F, ik, kp, tu, n, hok, hb_addFolder_1 l D cI cZ cO cJ (nI x) a2 (c_x (x_addFolder_b l hl0 D cI cZ cO hR x a2 hx c2)) (by decide) (by decide) hR.x hou hL hA hC0, c_md (m_addFolder_1 l D cI cZ ad A2 F ow mp nm5 gb5 ob5 ik kp tu g hA2 (nI x) a2 (by rw [c2, Bool.and_false])) hg rfl (fun h => absurd h (by decide))⟩
    | true =>
      obtain ⟨y, hy, rfl⟩ := inB_ex (N := 7) (by decide) c2
      rcases Nat.lt_or_ge n 20 with h20 | h20
      ·
        have hz := hZ n (Nat.le_refl _)
        exact ⟨0, nI n, _, _, _, _, _, hok.add hx (by omega) h20, hg_addFolder l D cI cZ cO cJ (nI x) (nI y) (c_pxF (k_X4_addFolder l D cI cZ cO hR A hL hA x y hM hx (by omega) h20 hz z hAz hne mi)) ⟨rfl, rfl, by decide, by decide, by decide, by decide⟩ hR.x hou, c_md (m_addFolder l D cI cZ ad A2 F ow mp nm5 gb5 ob5 ik kp tu g hA2 x y n hMg hx (by omega) h20) rfl rfl (fun _ => rfl)⟩
      ·
        have e20 : n = 20 := by omega
        exact ⟨2, 0, F, ik, kp, tu, n, hok, hb_addFolder_2 l D cI cZ cO cJ (nI x) (nI y) (c_x (x_addFolder_c l hl0 D cI cZ cO hR x y hx (by omega) (by rw [e20]; rfl))) (by decide) (by decide) hR.x hou hL hA hC0, c_md (m_addFolder_2 l D cI cZ ad A2 F ow mp nm5 gb5 ob5 ik kp tu g hA2 x y n hMg hx (by omega) (by rw [hg, e20]; rfl)) hg rfl (fun h => absurd h (by decide))⟩
set_option maxHeartbeats 800000 in
theorem pr_setOwner {l : Launch} (hl0 : l.stackTraces = false) {D : va_G} {cI cZ cO cJ : ClassId} {F : Nat → Nat → Int32} {ik kp tu : Nat → Int32} {n : Nat} (hok : okS F ik kp tu n) {L : List Nat} {f : Nat → va_E} {tg : Nat → Nat} {AD : Nat → Nat → Nat} {mc : Nat → Int32} {he gv : Nat → Int32} {gp gb ob nm lo : Int32} (hR : Rep cI cO L f tg AD mc F ik kp tu n he gv gp gb ob nm lo) (hL : L.Nodup) {A : Nat → Prop} (hA : ∀ a, a ∈ L → A a) {z mi ou : Nat} {w : Nat → Int64} (hAz : ∀ q, z ≤ q → A q) (hne : ¬ A (AD 7 0)) (hou : ¬ A ou) {ad : Nat → Nat} {ow mp : Nat → Int32} {nm5 gb5 ob5 : Int32} {g : Nat → Int32} (hg : g 6 = nI n) {A2 : Nat → Prop} (hA2 : apD 16 A2 ad) (a1 : Int32) (a2 : Int32) : PR l yL_setOwner wsL_setOwner yX5_setOwner wsX5_setOwner (rmr 2 43) D cI cZ cO cJ A L f (AD 0 0) (AD 7 0) z mi ou w ad A2 [.ref (AD 0 0), .int a1, .int a2, .ref ou] [.ref (ad 0), .int a1, .int a2] lvI F ow mp nm5 gb5 ob5 ik kp tu g := by
  obtain ⟨hM, hE, hB, hw6, hZ⟩ := id hok
  have hMg : okM F g n := ⟨hg, hM.2⟩
  have hn20 := hM.2.1
  have hC0 : ∀ H : Heap, va_P D vwCl (va_pl L f) H → CX D cI cO A (AD 0 0) (AD 7 0) F ik kp tu n H := fun H hP => ⟨he, gv, gp, gb, ob, nm, lo, L, f, tg, AD, mc, hL, hA, rfl, rfl, hP, hR⟩
  cases c1 : inB a1 0 (nI n - 1) with
  | false =>
    exact ⟨1, 0, F, ik, kp, tu, n, hok, hb_setOwner_1 l D cI cZ cO cJ a1 a2 (c_x (x_setOwner_a l hl0 D cI cZ cO hR a1 a2 hM c1)) (by decide) (by decide) hR.x hou hL hA hC0, c_md (m_setOwner_1 l D cI cZ ad A2 F ow mp nm5 gb5 ob5 ik kp tu g hA2 a1 a2 (by rw [hg, c1]; rfl)) hg rfl (fun h => absurd h (by decide))⟩
  | true =>
    obtain ⟨x, hx, rfl⟩ := fold_ex hM c1
    cases c2 : inB a2 0 7 with
    | false =>
      exact ⟨1, 0, F, ik, kp, tu, n, hok, hb_setOwner_1 l D cI cZ cO cJ (nI x) a2 (c_x (x_setOwner_b l hl0 D cI cZ cO hR x a2 hx c2)) (by decide) (by decide) hR.x hou hL hA hC0, c_md (m_setOwner_1 l D cI cZ ad A2 F ow mp nm5 gb5 ob5 ik kp tu g hA2 (nI x) a2 (by rw [c2, Bool.and_false])) hg rfl (fun h => absurd h (by decide))⟩
    | true =>
      obtain ⟨y, hy, rfl⟩ := inB_ex (N := 7) (by decide) c2
      exact ⟨0, F 4 x, _, _, _, _, _, hok.set4 (by omega), hg_setOwner l D cI cZ cO cJ (nI x) (nI y) (c_wr (k_X4_setOwner l D cI cZ cO hR A hL hA x y hx (by omega)) hL hA rfl rfl) ⟨rfl, rfl, by decide, by decide, by decide, by decide⟩ hR.x hou, c_md (m_setOwner l D cI cZ ad A2 F ow mp nm5 gb5 ob5 ik kp tu g hA2 x y n hMg hx (by omega)) hg rfl (fun _ => rfl)⟩
set_option maxHeartbeats 800000 in
theorem pr_setInherits {l : Launch} (hl0 : l.stackTraces = false) {D : va_G} {cI cZ cO cJ : ClassId} {F : Nat → Nat → Int32} {ik kp tu : Nat → Int32} {n : Nat} (hok : okS F ik kp tu n) {L : List Nat} {f : Nat → va_E} {tg : Nat → Nat} {AD : Nat → Nat → Nat} {mc : Nat → Int32} {he gv : Nat → Int32} {gp gb ob nm lo : Int32} (hR : Rep cI cO L f tg AD mc F ik kp tu n he gv gp gb ob nm lo) (hL : L.Nodup) {A : Nat → Prop} (hA : ∀ a, a ∈ L → A a) {z mi ou : Nat} {w : Nat → Int64} (hAz : ∀ q, z ≤ q → A q) (hne : ¬ A (AD 7 0)) (hou : ¬ A ou) {ad : Nat → Nat} {ow mp : Nat → Int32} {nm5 gb5 ob5 : Int32} {g : Nat → Int32} (hg : g 6 = nI n) {A2 : Nat → Prop} (hA2 : apD 16 A2 ad) (a1 : Int32) (b : Bool) : PR l yL_setInherits wsL_setInherits yX5_setInherits wsX5_setInherits (rmr 2 43) D cI cZ cO cJ A L f (AD 0 0) (AD 7 0) z mi ou w ad A2 [.ref (AD 0 0), .int a1, .int (b2i b), .ref ou] [.ref (ad 0), .int a1, .int (b2i b)] lvZ F ow mp nm5 gb5 ob5 ik kp tu g := by
  obtain ⟨hM, hE, hB, hw6, hZ⟩ := id hok
  have hMg : okM F g n := ⟨hg, hM.2⟩
  have hn20 := hM.2.1
  have hC0 : ∀ H : Heap, va_P D vwCl (va_pl L f) H → CX D cI cO A (AD 0 0) (AD 7 0) F ik kp tu n H := fun H hP => ⟨he, gv, gp, gb, ob, nm, lo, L, f, tg, AD, mc, hL, hA, rfl, rfl, hP, hR⟩
  cases c1 : inB a1 0 (nI n - 1) with
  | false =>
    exact ⟨1, 0, F, ik, kp, tu, n, hok, hb_setInherits_1 l D cI cZ cO cJ a1 (b2i b) (c_x (x_setInherits l hl0 D cI cZ cO hR a1 b hM c1)) (by decide) (by decide) hR.x hou hL hA hC0, c_md (m_setInherits_1 l D cI cZ ad A2 F ow mp nm5 gb5 ob5 ik kp tu g hA2 a1 b (by rw [hg]; exact c1)) hg rfl (fun h => absurd h (by decide))⟩
  | true =>
    obtain ⟨x, hx, rfl⟩ := fold_ex hM c1
    exact ⟨0, b2i (toB (F 5 x)), _, _, _, _, _, hok.set5 b, hg_setInherits l D cI cZ cO cJ (nI x) (b2i b) (c_wr (k_X4_setInherits l D cI cZ cO hR A hL hA x b hx hB) hL hA rfl rfl) ⟨rfl, rfl, by decide, by decide, by decide, by decide⟩ hR.x hou, c_md (m_setInherits l D cI cZ ad A2 F ow mp nm5 gb5 ob5 ik kp tu g hA2 x b n hMg hx hB) hg rfl (fun _ => rfl)⟩
set_option maxHeartbeats 800000 in
theorem pr_allow {l : Launch} (hl0 : l.stackTraces = false) {D : va_G} {cI cZ cO cJ : ClassId} {F : Nat → Nat → Int32} {ik kp tu : Nat → Int32} {n : Nat} (hok : okS F ik kp tu n) {L : List Nat} {f : Nat → va_E} {tg : Nat → Nat} {AD : Nat → Nat → Nat} {mc : Nat → Int32} {he gv : Nat → Int32} {gp gb ob nm lo : Int32} (hR : Rep cI cO L f tg AD mc F ik kp tu n he gv gp gb ob nm lo) (hL : L.Nodup) {A : Nat → Prop} (hA : ∀ a, a ∈ L → A a) {z mi ou : Nat} {w : Nat → Int64} (hAz : ∀ q, z ≤ q → A q) (hne : ¬ A (AD 7 0)) (hou : ¬ A ou) {ad : Nat → Nat} {ow mp : Nat → Int32} {nm5 gb5 ob5 : Int32} {g : Nat → Int32} (hg : g 6 = nI n) {A2 : Nat → Prop} (hA2 : apD 16 A2 ad) (a1 : Int32) (a2 : Int32) (b : Bool) (a3 : Int32) (a4 : Int32) : PR l yL_allow wsL_allow yX5_allow wsX5_allow (rmr 2 43) D cI cZ cO cJ A L f (AD 0 0) (AD 7 0) z mi ou w ad A2 [.ref (AD 0 0), .int a1, .int a2, .int (b2i b), .int a3, .int a4, .ref ou] [.ref (ad 0), .int a1, .int a2, .int (b2i b), .int a3, .int a4] lvI F ow mp nm5 gb5 ob5 ik kp tu g := by
  obtain ⟨hM, hE, hB, hw6, hZ⟩ := id hok
  have hMg : okM F g n := ⟨hg, hM.2⟩
  have hn20 := hM.2.1
  have hC0 : ∀ H : Heap, va_P D vwCl (va_pl L f) H → CX D cI cO A (AD 0 0) (AD 7 0) F ik kp tu n H := fun H hP => ⟨he, gv, gp, gb, ob, nm, lo, L, f, tg, AD, mc, hL, hA, rfl, rfl, hP, hR⟩
  cases c1 : inB a1 0 (nI n - 1) with
  | false =>
    exact ⟨1, 0, F, ik, kp, tu, n, hok, hb_allow_1 l D cI cZ cO cJ a1 a2 (b2i b) a3 a4 (c_x (x_allow_a l hl0 D cI cZ cO hR a1 a2 b a3 a4 hM c1)) (by decide) (by decide) hR.x hou hL hA hC0, c_md (m_allow_1 l D cI cZ ad A2 F ow mp nm5 gb5 ob5 ik kp tu g hA2 a1 a2 b a3 a4 (by rw [hg, c1]; rfl)) hg rfl (fun h => absurd h (by decide))⟩
  | true =>
    obtain ⟨x, hx, rfl⟩ := fold_ex hM c1
    cases c2 : inB a2 0 13 with
    | false =>
      exact ⟨1, 0, F, ik, kp, tu, n, hok, hb_allow_1 l D cI cZ cO cJ (nI x) a2 (b2i b) a3 a4 (c_x (x_allow_b l hl0 D cI cZ cO hR x a2 b a3 a4 hx c2)) (by decide) (by decide) hR.x hou hL hA hC0, c_md (m_allow_1 l D cI cZ ad A2 F ow mp nm5 gb5 ob5 ik kp tu g hA2 (nI x) a2 b a3 a4 (by rw [c2, Bool.and_false])) hg rfl (fun h => absurd h (by decide))⟩
    | true =>
      obtain ⟨y, hy, rfl⟩ := inB_ex (N := 13) (by decide) c2
      cases c3 : (inB a3 1 7 && inB a4 0 2) with
      | false =>
        exact ⟨2, 0, F, ik, kp, tu, n, hok, hb_allow_2 l D cI cZ cO cJ (nI x) (nI y) (b2i b) a3 a4 (c_x (x_allow_c l hl0 D cI cZ cO hR x y b a3 a4 hx (by omega) c3)) (by decide) (by decide) hR.x hou hL hA hC0, c_md (m_allow_2 l D cI cZ ad A2 F ow mp nm5 gb5 ob5 ik kp tu g hA2 x y b a3 a4 n hMg hx (by omega) c3) hg rfl (fun h => absurd h (by decide))⟩
      | true =>
        rw [Bool.and_eq_true] at c3
        obtain ⟨c4, c5⟩ := c3
        have hlen := okM.len hM hx
        rcases Nat.lt_or_ge (i2n (F 6 x)) 6 with h6 | h6
        ·
          exact ⟨0, nI (i2n (F 6 x) + 1), _, _, _, _, _, hok.allow hx (by omega) c4 h6, hg_allow l D cI cZ cO cJ (nI x) (nI y) (b2i b) a3 a4 (c_pxA (k_X4_allow l D cI cZ cO hR A hL hA x y b a3 a4 hM hx (by omega) c4 c5 h6 z hAz hne)) ⟨rfl, rfl, by decide, by decide, by decide, by decide⟩ hR.x hou, c_md (m_allow l D cI cZ ad A2 F ow mp nm5 gb5 ob5 ik kp tu g hA2 x y b a3 a4 n hMg hx (by omega) c4 c5 h6) hg rfl (fun _ => rfl)⟩
        ·
          have e6 : F 6 x = 6 := by rw [hlen.1, show i2n (F 6 x) = 6 by omega]; rfl
          exact ⟨3, 0, F, ik, kp, tu, n, hok, hb_allow_3 l D cI cZ cO cJ (nI x) (nI y) (b2i b) a3 a4 (c_x (x_allow_d l hl0 D cI cZ cO hR x y b a3 a4 hx (by omega) c4 c5 e6)) (by decide) (by decide) hR.x hou hL hA hC0, c_md (m_allow_3 l D cI cZ ad A2 F ow mp nm5 gb5 ob5 ik kp tu g hA2 x y b a3 a4 n hMg hx (by omega) c4 c5 e6) hg rfl (fun h => absurd h (by decide))⟩
