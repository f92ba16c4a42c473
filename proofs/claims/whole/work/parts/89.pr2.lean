set_option maxHeartbeats 800000 in
theorem pr_drop {l : Launch} (hl0 : l.stackTraces = false) {D : va_G} {cI cZ cO cJ : ClassId} {F : Nat → Nat → Int32} {ik kp tu : Nat → Int32} {n : Nat} (hok : okS F ik kp tu n) {L : List Nat} {f : Nat → va_E} {tg : Nat → Nat} {AD : Nat → Nat → Nat} {mc : Nat → Int32} {he gv : Nat → Int32} {gp gb ob nm lo : Int32} (hR : Rep cI cO L f tg AD mc F ik kp tu n he gv gp gb ob nm lo) (hL : L.Nodup) {A : Nat → Prop} (hA : ∀ a, a ∈ L → A a) {z mi ou : Nat} {w : Nat → Int64} (hAz : ∀ q, z ≤ q → A q) (hne : ¬ A (AD 7 0)) (hou : ¬ A ou) {ad : Nat → Nat} {ow mp : Nat → Int32} {nm5 gb5 ob5 : Int32} {g : Nat → Int32} (hg : g 6 = nI n) {A2 : Nat → Prop} (hA2 : apD 16 A2 ad) (a1 : Int32) (a2 : Int32) : PR l yL_drop wsL_drop yX5_drop wsX5_drop (rmr 2 43) D cI cZ cO cJ A L f (AD 0 0) (AD 7 0) z mi ou w ad A2 [.ref (AD 0 0), .int a1, .int a2, .ref ou] [.ref (ad 0), .int a1, .int a2] lvI F ow mp nm5 gb5 ob5 ik kp tu g := by
  obtain ⟨hM, hE, hB, hw6, hZ⟩ := id hok
  have hMg : okM F g n := ⟨hg, hM.2⟩
  have hn20 := hM.2.1
  have hC0 : ∀ H : Heap, va_P D vwCl (va_pl L f) H → CX D cI cO A (AD 0 0) (AD 7 0) F ik kp tu n H := fun H hP => ⟨he, gv, gp, gb, ob, nm, lo, L, f, tg, AD, mc, hL, hA, rfl, rfl, hP, hR⟩
  cases c1 : inB a1 0 (nI n - 1) with
  | false =>
    exact ⟨1, 0, F, ik, kp, tu, n, hok, hb_drop_1 l D cI cZ cO cJ a1 a2 (c_x (x_drop_a l hl0 D cI cZ cO hR a1 a2 hM c1)) (by decide) (by decide) hR.x hou hL hA hC0, c_md (m_drop_1 l D cI cZ ad A2 F ow mp nm5 gb5 ob5 ik kp tu g hA2 a1 a2 (by rw [hg]; exact c1)) hg rfl (fun h => absurd h (by decide))⟩
  | true =>
    obtain ⟨x, hx, rfl⟩ := fold_ex hM c1
    cases c2 : inB a2 0 (F 6 x - 1) with
    | false =>
      exact ⟨1, 0, F, ik, kp, tu, n, hok, hb_drop_1 l D cI cZ cO cJ (nI x) a2 (c_x (x_drop_b l hl0 D cI cZ cO hR x a2 hM hx c2)) (by decide) (by decide) hR.x hou hL hA hC0, c_md (m_drop_1b l D cI cZ ad A2 F ow mp nm5 gb5 ob5 ik kp tu g hA2 x a2 n hMg hx c2) hg rfl (fun h => absurd h (by decide))⟩
    | true =>
      obtain ⟨y, hy, rfl⟩ := ent_ex hM hx c2
      exact ⟨0, F 9 (6 * x + y), _, _, _, _, _, hok.drop hx hy, hg_drop l D cI cZ cO cJ (nI x) (nI y) (c_wrC (k_X4_drop l D cI cZ cO hR A hL hA x y hM hx hy) hL hA (by rw [rmAD_ne (by decide)]) (by rw [rmAD_ne (by decide)])) ⟨rfl, rfl, by decide, by decide, by decide, by decide⟩ hR.x hou, c_md (m_drop l D cI cZ ad A2 F ow mp nm5 gb5 ob5 ik kp tu g hA2 x y n hMg hx hB hy) hg rfl (fun _ => rfl)⟩
set_option maxHeartbeats 800000 in
theorem pr_rights {l : Launch} (hl0 : l.stackTraces = false) {D : va_G} {cI cZ cO cJ : ClassId} {F : Nat → Nat → Int32} {ik kp tu : Nat → Int32} {n : Nat} (hok : okS F ik kp tu n) {L : List Nat} {f : Nat → va_E} {tg : Nat → Nat} {AD : Nat → Nat → Nat} {mc : Nat → Int32} {he gv : Nat → Int32} {gp gb ob nm lo : Int32} (hR : Rep cI cO L f tg AD mc F ik kp tu n he gv gp gb ob nm lo) (hL : L.Nodup) {A : Nat → Prop} (hA : ∀ a, a ∈ L → A a) {z mi ou : Nat} {w : Nat → Int64} (hAz : ∀ q, z ≤ q → A q) (hne : ¬ A (AD 7 0)) (hou : ¬ A ou) {ad : Nat → Nat} {ow mp : Nat → Int32} {nm5 gb5 ob5 : Int32} {g : Nat → Int32} (hg : g 6 = nI n) {A2 : Nat → Prop} (hA2 : apD 16 A2 ad) (a1 : Int32) (a2 : Int32) : PR l yL_rights wsL_rights yX5_rights wsX5_rights (rmr 5 119) D cI cZ cO cJ A L f (AD 0 0) (AD 7 0) z mi ou w ad A2 [.ref (AD 0 0), .int a1, .int a2, .ref ou] [.ref (ad 0), .int a1, .int a2] lvI F ow mp nm5 gb5 ob5 ik kp tu g := by
  obtain ⟨hM, hE, hB, hw6, hZ⟩ := id hok
  have hMg : okM F g n := ⟨hg, hM.2⟩
  have hn20 := hM.2.1
  have hC0 : ∀ H : Heap, va_P D vwCl (va_pl L f) H → CX D cI cO A (AD 0 0) (AD 7 0) F ik kp tu n H := fun H hP => ⟨he, gv, gp, gb, ob, nm, lo, L, f, tg, AD, mc, hL, hA, rfl, rfl, hP, hR⟩
  cases c1 : inB a1 0 7 with
  | false =>
    exact ⟨1, 0, F, ik, kp, tu, n, hok, hb_rights_1 l D cI cZ cO cJ a1 a2 (c_x (x_rights_a l hl0 D cI cZ cO hR a1 a2 c1)) (by decide) (by decide) hR.x hou hL hA hC0, c_md (m_rights_1 l D cI cZ ad A2 F ow mp nm5 gb5 ob5 ik kp tu g hA2 a1 a2 (by rw [c1]; rfl)) hg rfl (fun h => absurd h (by decide))⟩
  | true =>
    obtain ⟨x, hx, rfl⟩ := inB_ex (N := 7) (by decide) c1
    cases c2 : inB a2 0 (nI n - 1) with
    | false =>
      exact ⟨1, 0, F, ik, kp, tu, n, hok, hb_rights_1 l D cI cZ cO cJ (nI x) a2 (c_x (x_rights_b l hl0 D cI cZ cO hR x a2 hM (by omega) c2)) (by decide) (by decide) hR.x hou hL hA hC0, c_md (m_rights_1 l D cI cZ ad A2 F ow mp nm5 gb5 ob5 ik kp tu g hA2 (nI x) a2 (by rw [hg, c2, Bool.and_false])) hg rfl (fun h => absurd h (by decide))⟩
    | true =>
      obtain ⟨y, hy, rfl⟩ := fold_ex hM c2
      exact ⟨0, mRights F x y, _, _, _, _, _, hok, hg_rights l D cI cZ cO cJ (nI x) (nI y) (c_read (k_X4_rights l D cI cZ cO hR x y hM hE hy (by omega)) hC0) ⟨rfl, rfl, by decide, by decide, by decide, by decide⟩ hR.x hou, c_md (m_rights l D cI cZ ad A2 F ow mp nm5 gb5 ob5 ik kp tu g hA2 x y n hMg (by omega) hy) hg rfl (fun _ => rfl)⟩
set_option maxHeartbeats 800000 in
theorem pr_rightsBackwards {l : Launch} (hl0 : l.stackTraces = false) {D : va_G} {cI cZ cO cJ : ClassId} {F : Nat → Nat → Int32} {ik kp tu : Nat → Int32} {n : Nat} (hok : okS F ik kp tu n) {L : List Nat} {f : Nat → va_E} {tg : Nat → Nat} {AD : Nat → Nat → Nat} {mc : Nat → Int32} {he gv : Nat → Int32} {gp gb ob nm lo : Int32} (hR : Rep cI cO L f tg AD mc F ik kp tu n he gv gp gb ob nm lo) (hL : L.Nodup) {A : Nat → Prop} (hA : ∀ a, a ∈ L → A a) {z mi ou : Nat} {w : Nat → Int64} (hAz : ∀ q, z ≤ q → A q) (hne : ¬ A (AD 7 0)) (hou : ¬ A ou) {ad : Nat → Nat} {ow mp : Nat → Int32} {nm5 gb5 ob5 : Int32} {g : Nat → Int32} (hg : g 6 = nI n) {A2 : Nat → Prop} (hA2 : apD 16 A2 ad) (a1 : Int32) (a2 : Int32) : PR l yL_rightsBackwards wsL_rightsBackwards yX5_rightsBackwards wsX5_rightsBackwards (rmr 6 141) D cI cZ cO cJ A L f (AD 0 0) (AD 7 0) z mi ou w ad A2 [.ref (AD 0 0), .int a1, .int a2, .ref ou] [.ref (ad 0), .int a1, .int a2] lvI F ow mp nm5 gb5 ob5 ik kp tu g := by
  obtain ⟨hM, hE, hB, hw6, hZ⟩ := id hok
  have hMg : okM F g n := ⟨hg, hM.2⟩
  have hn20 := hM.2.1
  have hC0 : ∀ H : Heap, va_P D vwCl (va_pl L f) H → CX D cI cO A (AD 0 0) (AD 7 0) F ik kp tu n H := fun H hP => ⟨he, gv, gp, gb, ob, nm, lo, L, f, tg, AD, mc, hL, hA, rfl, rfl, hP, hR⟩
  cases c1 : inB a1 0 7 with
  | false =>
    exact ⟨1, 0, F, ik, kp, tu, n, hok, hb_rightsBackwards_1 l D cI cZ cO cJ a1 a2 (c_x (x_rightsBackwards_a l hl0 D cI cZ cO hR a1 a2 c1)) (by decide) (by decide) hR.x hou hL hA hC0, c_md (m_rightsBackwards_1 l D cI cZ ad A2 F ow mp nm5 gb5 ob5 ik kp tu g hA2 a1 a2 (by rw [c1]; rfl)) hg rfl (fun h => absurd h (by decide))⟩
  | true =>
    obtain ⟨x, hx, rfl⟩ := inB_ex (N := 7) (by decide) c1
    cases c2 : inB a2 0 (nI n - 1) with
    | false =>
      exact ⟨1, 0, F, ik, kp, tu, n, hok, hb_rightsBackwards_1 l D cI cZ cO cJ (nI x) a2 (c_x (x_rightsBackwards_b l hl0 D cI cZ cO hR x a2 hM (by omega) c2)) (by decide) (by decide) hR.x hou hL hA hC0, c_md (m_rightsBackwards_1 l D cI cZ ad A2 F ow mp nm5 gb5 ob5 ik kp tu g hA2 (nI x) a2 (by rw [hg, c2, Bool.and_false])) hg rfl (fun h => absurd h (by decide))⟩
    | true =>
      obtain ⟨y, hy, rfl⟩ := fold_ex hM c2
      exact ⟨0, mRights F x y, _, _, _, _, _, hok, hg_rightsBackwards l D cI cZ cO cJ (nI x) (nI y) (c_read (k_X4_rightsBackwards l D cI cZ cO hR x y hM hE hy (by omega)) hC0) ⟨rfl, rfl, by decide, by decide, by decide, by decide⟩ hR.x hou, c_md (m_rightsBackwards l D cI cZ ad A2 F ow mp nm5 gb5 ob5 ik kp tu g hA2 x y n hMg (by omega) hy) hg rfl (fun _ => rfl)⟩
set_option maxHeartbeats 800000 in
theorem pr_groupOf {l : Launch} (hl0 : l.stackTraces = false) {D : va_G} {cI cZ cO cJ : ClassId} {F : Nat → Nat → Int32} {ik kp tu : Nat → Int32} {n : Nat} (hok : okS F ik kp tu n) {L : List Nat} {f : Nat → va_E} {tg : Nat → Nat} {AD : Nat → Nat → Nat} {mc : Nat → Int32} {he gv : Nat → Int32} {gp gb ob nm lo : Int32} (hR : Rep cI cO L f tg AD mc F ik kp tu n he gv gp gb ob nm lo) (hL : L.Nodup) {A : Nat → Prop} (hA : ∀ a, a ∈ L → A a) {z mi ou : Nat} {w : Nat → Int64} (hAz : ∀ q, z ≤ q → A q) (hne : ¬ A (AD 7 0)) (hou : ¬ A ou) {ad : Nat → Nat} {ow mp : Nat → Int32} {nm5 gb5 ob5 : Int32} {g : Nat → Int32} (hg : g 6 = nI n) {A2 : Nat → Prop} (hA2 : apD 16 A2 ad) (a1 : Int32) : PR l yL_groupOf wsL_groupOf yX5_groupOf wsX5_groupOf (rmr 7 170) D cI cZ cO cJ A L f (AD 0 0) (AD 7 0) z mi ou w ad A2 [.ref (AD 0 0), .int a1, .ref ou] [.ref (ad 0), .int a1] lvI F ow mp nm5 gb5 ob5 ik kp tu g := by
  obtain ⟨hM, hE, hB, hw6, hZ⟩ := id hok
  have hMg : okM F g n := ⟨hg, hM.2⟩
  have hn20 := hM.2.1
  have hC0 : ∀ H : Heap, va_P D vwCl (va_pl L f) H → CX D cI cO A (AD 0 0) (AD 7 0) F ik kp tu n H := fun H hP => ⟨he, gv, gp, gb, ob, nm, lo, L, f, tg, AD, mc, hL, hA, rfl, rfl, hP, hR⟩
  cases c1 : inB a1 0 (nI n - 1) with
  | false =>
    exact ⟨1, 0, F, ik, kp, tu, n, hok, hb_groupOf_1 l D cI cZ cO cJ a1 (c_x (x_groupOf l hl0 D cI cZ cO hR a1 hM c1)) (by decide) (by decide) hR.x hou hL hA hC0, c_md (m_groupOf_1 l D cI cZ ad A2 F ow mp nm5 gb5 ob5 ik kp tu g hA2 a1 (by rw [hg]; exact c1)) hg rfl (fun h => absurd h (by decide))⟩
  | true =>
    obtain ⟨x, hx, rfl⟩ := fold_ex hM c1
    exact ⟨0, mBest F o0 x, _, _, _, _, _, hok, hg_groupOf l D cI cZ cO cJ (nI x) (c_wr (k_X4_groupOf l D cI cZ cO hR A hL hA x hM hE hx) hL hA rfl rfl) ⟨rfl, rfl, by decide, by decide, by decide, by decide⟩ hR.x hou, c_md (m_groupOf l D cI cZ ad A2 F ow mp nm5 gb5 ob5 ik kp tu g hA2 x n hMg hx) hg rfl (fun _ => mBest_any)⟩
set_option maxHeartbeats 800000 in
theorem pr_bits {l : Launch} (hl0 : l.stackTraces = false) {D : va_G} {cI cZ cO cJ : ClassId} {F : Nat → Nat → Int32} {ik kp tu : Nat → Int32} {n : Nat} (hok : okS F ik kp tu n) {L : List Nat} {f : Nat → va_E} {tg : Nat → Nat} {AD : Nat → Nat → Nat} {mc : Nat → Int32} {he gv : Nat → Int32} {gp gb ob nm lo : Int32} (hR : Rep cI cO L f tg AD mc F ik kp tu n he gv gp gb ob nm lo) (hL : L.Nodup) {A : Nat → Prop} (hA : ∀ a, a ∈ L → A a) {z mi ou : Nat} {w : Nat → Int64} (hAz : ∀ q, z ≤ q → A q) (hne : ¬ A (AD 7 0)) (hou : ¬ A ou) {ad : Nat → Nat} {ow mp : Nat → Int32} {nm5 gb5 ob5 : Int32} {g : Nat → Int32} (hg : g 6 = nI n) {A2 : Nat → Prop} (hA2 : apD 16 A2 ad) (a1 : Int32) : PR l yL_bits wsL_bits yX5_bits wsX5_bits (rmr 7 170) D cI cZ cO cJ A L f (AD 0 0) (AD 7 0) z mi ou w ad A2 [.ref (AD 0 0), .int a1, .ref ou] [.ref (ad 0), .int a1] lvI F ow mp nm5 gb5 ob5 ik kp tu g := by
  obtain ⟨hM, hE, hB, hw6, hZ⟩ := id hok
  have hMg : okM F g n := ⟨hg, hM.2⟩
  have hn20 := hM.2.1
  have hC0 : ∀ H : Heap, va_P D vwCl (va_pl L f) H → CX D cI cO A (AD 0 0) (AD 7 0) F ik kp tu n H := fun H hP => ⟨he, gv, gp, gb, ob, nm, lo, L, f, tg, AD, mc, hL, hA, rfl, rfl, hP, hR⟩
  cases c1 : inB a1 0 (nI n - 1) with
  | false =>
    exact ⟨1, 0, F, ik, kp, tu, n, hok, hb_bits_1 l D cI cZ cO cJ a1 (c_x (x_bits l hl0 D cI cZ cO hR a1 hM c1)) (by decide) (by decide) hR.x hou hL hA hC0, c_md (m_bits_1 l D cI cZ ad A2 F ow mp nm5 gb5 ob5 ik kp tu g hA2 a1 (by rw [hg]; exact c1)) hg rfl (fun h => absurd h (by decide))⟩
  | true =>
    obtain ⟨x, hx, rfl⟩ := fold_ex hM c1
    exact ⟨0, 10 * mGB F o0 x (mBest F o0 x) + mOB F o0 x (mBest F o0 x), _, _, _, _, _, hok, hg_bits l D cI cZ cO cJ (nI x) (c_wr (k_X4_bits l D cI cZ cO hR A hL hA x hM hE hx) hL hA rfl rfl) ⟨rfl, rfl, by decide, by decide, by decide, by decide⟩ hR.x hou, c_md (m_bits l D cI cZ ad A2 F ow mp nm5 gb5 ob5 ik kp tu g hA2 x n hMg hx) hg rfl (fun _ => by rw [mBest_any, mGB_any, mOB_any])⟩
set_option maxHeartbeats 800000 in
theorem pr_named {l : Launch} (hl0 : l.stackTraces = false) {D : va_G} {cI cZ cO cJ : ClassId} {F : Nat → Nat → Int32} {ik kp tu : Nat → Int32} {n : Nat} (hok : okS F ik kp tu n) {L : List Nat} {f : Nat → va_E} {tg : Nat → Nat} {AD : Nat → Nat → Nat} {mc : Nat → Int32} {he gv : Nat → Int32} {gp gb ob nm lo : Int32} (hR : Rep cI cO L f tg AD mc F ik kp tu n he gv gp gb ob nm lo) (hL : L.Nodup) {A : Nat → Prop} (hA : ∀ a, a ∈ L → A a) {z mi ou : Nat} {w : Nat → Int64} (hAz : ∀ q, z ≤ q → A q) (hne : ¬ A (AD 7 0)) (hou : ¬ A ou) {ad : Nat → Nat} {ow mp : Nat → Int32} {nm5 gb5 ob5 : Int32} {g : Nat → Int32} (hg : g 6 = nI n) {A2 : Nat → Prop} (hA2 : apD 16 A2 ad) (a1 : Int32) : PR l yL_named wsL_named yX5_named wsX5_named (rmr 7 170) D cI cZ cO cJ A L f (AD 0 0) (AD 7 0) z mi ou w ad A2 [.ref (AD 0 0), .int a1, .ref ou] [.ref (ad 0), .int a1] lvI F ow mp nm5 gb5 ob5 ik kp tu g := by
  obtain ⟨hM, hE, hB, hw6, hZ⟩ := id hok
  have hMg : okM F g n := ⟨hg, hM.2⟩
  have hn20 := hM.2.1
  have hC0 : ∀ H : Heap, va_P D vwCl (va_pl L f) H → CX D cI cO A (AD 0 0) (AD 7 0) F ik kp tu n H := fun H hP => ⟨he, gv, gp, gb, ob, nm, lo, L, f, tg, AD, mc, hL, hA, rfl, rfl, hP, hR⟩
  cases c1 : inB a1 0 (nI n - 1) with
  | false =>
    exact ⟨1, 0, F, ik, kp, tu, n, hok, hb_named_1 l D cI cZ cO cJ a1 (c_x (x_named l hl0 D cI cZ cO hR a1 hM c1)) (by decide) (by decide) hR.x hou hL hA hC0, c_md (m_named_1 l D cI cZ ad A2 F ow mp nm5 gb5 ob5 ik kp tu g hA2 a1 (by rw [hg]; exact c1)) hg rfl (fun h => absurd h (by decide))⟩
  | true =>
    obtain ⟨x, hx, rfl⟩ := fold_ex hM c1
    exact ⟨0, mN F o0 x (mBest F o0 x), _, _, _, _, _, hok, hg_named l D cI cZ cO cJ (nI x) (c_wr (k_X4_named l D cI cZ cO hR A hL hA x hM hE hx) hL hA rfl rfl) ⟨rfl, rfl, by decide, by decide, by decide, by decide⟩ hR.x hou, c_md (m_named l D cI cZ ad A2 F ow mp nm5 gb5 ob5 ik kp tu g hA2 x n hMg hx) hg rfl (fun _ => by rw [mBest_any, mN_any])⟩
set_option maxHeartbeats 800000 in
theorem pr_mapped {l : Launch} (hl0 : l.stackTraces = false) {D : va_G} {cI cZ cO cJ : ClassId} {F : Nat → Nat → Int32} {ik kp tu : Nat → Int32} {n : Nat} (hok : okS F ik kp tu n) {L : List Nat} {f : Nat → va_E} {tg : Nat → Nat} {AD : Nat → Nat → Nat} {mc : Nat → Int32} {he gv : Nat → Int32} {gp gb ob nm lo : Int32} (hR : Rep cI cO L f tg AD mc F ik kp tu n he gv gp gb ob nm lo) (hL : L.Nodup) {A : Nat → Prop} (hA : ∀ a, a ∈ L → A a) {z mi ou : Nat} {w : Nat → Int64} (hAz : ∀ q, z ≤ q → A q) (hne : ¬ A (AD 7 0)) (hou : ¬ A ou) {ad : Nat → Nat} {ow mp : Nat → Int32} {nm5 gb5 ob5 : Int32} {g : Nat → Int32} (hg : g 6 = nI n) {A2 : Nat → Prop} (hA2 : apD 16 A2 ad) (a1 : Int32) (a2 : Int32) : PR l yL_mapped wsL_mapped yX5_mapped wsX5_mapped (rmr 7 170) D cI cZ cO cJ A L f (AD 0 0) (AD 7 0) z mi ou w ad A2 [.ref (AD 0 0), .int a1, .int a2, .ref ou] [.ref (ad 0), .int a1, .int a2] lvI F ow mp nm5 gb5 ob5 ik kp tu g := by
  obtain ⟨hM, hE, hB, hw6, hZ⟩ := id hok
  have hMg : okM F g n := ⟨hg, hM.2⟩
  have hn20 := hM.2.1
  have hC0 : ∀ H : Heap, va_P D vwCl (va_pl L f) H → CX D cI cO A (AD 0 0) (AD 7 0) F ik kp tu n H := fun H hP => ⟨he, gv, gp, gb, ob, nm, lo, L, f, tg, AD, mc, hL, hA, rfl, rfl, hP, hR⟩
  cases c1 : inB a1 0 7 with
  | false =>
    exact ⟨1, 0, F, ik, kp, tu, n, hok, hb_mapped_1 l D cI cZ cO cJ a1 a2 (c_x (x_mapped_a l hl0 D cI cZ cO hR a1 a2 c1)) (by decide) (by decide) hR.x hou hL hA hC0, c_md (m_mapped_1 l D cI cZ ad A2 F ow mp nm5 gb5 ob5 ik kp tu g hA2 a1 a2 (by rw [c1]; rfl)) hg rfl (fun h => absurd h (by decide))⟩
  | true =>
    obtain ⟨x, hx, rfl⟩ := inB_ex (N := 7) (by decide) c1
    cases c2 : inB a2 0 (nI n - 1) with
    | false =>
      exact ⟨1, 0, F, ik, kp, tu, n, hok, hb_mapped_1 l D cI cZ cO cJ (nI x) a2 (c_x (x_mapped_b l hl0 D cI cZ cO hR x a2 hM (by omega) c2)) (by decide) (by decide) hR.x hou hL hA hC0, c_md (m_mapped_1 l D cI cZ ad A2 F ow mp nm5 gb5 ob5 ik kp tu g hA2 (nI x) a2 (by rw [hg, c2, Bool.and_false])) hg rfl (fun h => absurd h (by decide))⟩
    | true =>
      obtain ⟨y, hy, rfl⟩ := fold_ex hM c2
      exact ⟨0, mV F o0 y (mBest F o0 y) x, _, _, _, _, _, hok, hg_mapped l D cI cZ cO cJ (nI x) (nI y) (c_wr (k_X4_mapped l D cI cZ cO hR A hL hA x y hM hE hy (by omega)) hL hA rfl rfl) ⟨rfl, rfl, by decide, by decide, by decide, by decide⟩ hR.x hou, c_md (m_mapped l D cI cZ ad A2 F ow mp nm5 gb5 ob5 ik kp tu g hA2 x y n hMg (by omega) hy) hg rfl (fun _ => by unfold mMP; rw [fillA_get, if_pos (by omega), mBest_any]; exact mV_any _ x (by omega))⟩
