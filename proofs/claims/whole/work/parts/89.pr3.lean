set_option maxHeartbeats 800000 in
theorem pr_loss {l : Launch} (hl0 : l.stackTraces = false) {D : va_G} {cI cZ cO cJ : ClassId} {F : Nat → Nat → Int32} {ik kp tu : Nat → Int32} {n : Nat} (hok : okS F ik kp tu n) {L : List Nat} {f : Nat → va_E} {tg : Nat → Nat} {AD : Nat → Nat → Nat} {mc : Nat → Int32} {he gv : Nat → Int32} {gp gb ob nm lo : Int32} (hR : Rep cI cO L f tg AD mc F ik kp tu n he gv gp gb ob nm lo) (hL : L.Nodup) {A : Nat → Prop} (hA : ∀ a, a ∈ L → A a) {z mi ou : Nat} {w : Nat → Int64} (hAz : ∀ q, z ≤ q → A q) (hne : ¬ A (AD 7 0)) (hou : ¬ A ou) {ad : Nat → Nat} {ow mp : Nat → Int32} {nm5 gb5 ob5 : Int32} {g : Nat → Int32} (hg : g 6 = nI n) {A2 : Nat → Prop} (hA2 : apD 16 A2 ad) (a1 : Int32) : PR l yL_loss wsL_loss yX5_loss wsX5_loss (rmr 7 170) D cI cZ cO cJ A L f (AD 0 0) (AD 7 0) z mi ou w ad A2 [.ref (AD 0 0), .int a1, .ref ou] [.ref (ad 0), .int a1] lvI F ow mp nm5 gb5 ob5 ik kp tu g := by
  obtain ⟨hM, hE, hB, hw6, hZ⟩ := id hok
  have hMg : okM F g n := ⟨hg, hM.2⟩
  have hn20 := hM.2.1
  have hC0 : ∀ H : Heap, va_P D vwCl (va_pl L f) H → CX D cI cO A (AD 0 0) (AD 7 0) F ik kp tu n H := fun H hP => ⟨he, gv, gp, gb, ob, nm, lo, L, f, tg, AD, mc, hL, hA, rfl, rfl, hP, hR⟩
  cases c1 : inB a1 0 (nI n - 1) with
  | false =>
    exact ⟨1, 0, F, ik, kp, tu, n, hok, hb_loss_1 l D cI cZ cO cJ a1 (c_x (x_loss l hl0 D cI cZ cO hR a1 hM c1)) (by decide) (by decide) hR.x hou hL hA hC0, c_md (m_loss_1 l D cI cZ ad A2 F ow mp nm5 gb5 ob5 ik kp tu g hA2 a1 (by rw [hg]; exact c1)) hg rfl (fun h => absurd h (by decide))⟩
  | true =>
    obtain ⟨x, hx, rfl⟩ := fold_ex hM c1
    exact ⟨0, mL F o0 x (mBest F o0 x), _, _, _, _, _, hok, hg_loss l D cI cZ cO cJ (nI x) (c_wr (k_X4_loss l D cI cZ cO hR A hL hA x hM hE hx) hL hA rfl rfl) ⟨rfl, rfl, by decide, by decide, by decide, by decide⟩ hR.x hou, c_md (m_loss l D cI cZ ad A2 F ow mp nm5 gb5 ob5 ik kp tu g hA2 x n hMg hx) hg rfl (fun _ => by rw [mBest_any, mL_any])⟩
set_option maxHeartbeats 800000 in
theorem pr_lossWith {l : Launch} (hl0 : l.stackTraces = false) {D : va_G} {cI cZ cO cJ : ClassId} {F : Nat → Nat → Int32} {ik kp tu : Nat → Int32} {n : Nat} (hok : okS F ik kp tu n) {L : List Nat} {f : Nat → va_E} {tg : Nat → Nat} {AD : Nat → Nat → Nat} {mc : Nat → Int32} {he gv : Nat → Int32} {gp gb ob nm lo : Int32} (hR : Rep cI cO L f tg AD mc F ik kp tu n he gv gp gb ob nm lo) (hL : L.Nodup) {A : Nat → Prop} (hA : ∀ a, a ∈ L → A a) {z mi ou : Nat} {w : Nat → Int64} (hAz : ∀ q, z ≤ q → A q) (hne : ¬ A (AD 7 0)) (hou : ¬ A ou) {ad : Nat → Nat} {ow mp : Nat → Int32} {nm5 gb5 ob5 : Int32} {g : Nat → Int32} (hg : g 6 = nI n) {A2 : Nat → Prop} (hA2 : apD 16 A2 ad) (a1 : Int32) (a2 : Int32) : PR l yL_lossWith wsL_lossWith yX5_lossWith wsX5_lossWith (rmr 6 145) D cI cZ cO cJ A L f (AD 0 0) (AD 7 0) z mi ou w ad A2 [.ref (AD 0 0), .int a1, .int a2, .ref ou] [.ref (ad 0), .int a1, .int a2] lvI F ow mp nm5 gb5 ob5 ik kp tu g := by
  obtain ⟨hM, hE, hB, hw6, hZ⟩ := id hok
  have hMg : okM F g n := ⟨hg, hM.2⟩
  have hn20 := hM.2.1
  have hC0 : ∀ H : Heap, va_P D vwCl (va_pl L f) H → CX D cI cO A (AD 0 0) (AD 7 0) F ik kp tu n H := fun H hP => ⟨he, gv, gp, gb, ob, nm, lo, L, f, tg, AD, mc, hL, hA, rfl, rfl, hP, hR⟩
  cases c1 : inB a1 0 (nI n - 1) with
  | false =>
    exact ⟨1, 0, F, ik, kp, tu, n, hok, hb_lossWith_1 l D cI cZ cO cJ a1 a2 (c_x (x_lossWith_a l hl0 D cI cZ cO hR a1 a2 hM c1)) (by decide) (by decide) hR.x hou hL hA hC0, c_md (m_lossWith_1 l D cI cZ ad A2 F ow mp nm5 gb5 ob5 ik kp tu g hA2 a1 a2 (by rw [hg, c1]; rfl)) hg rfl (fun h => absurd h (by decide))⟩
  | true =>
    obtain ⟨x, hx, rfl⟩ := fold_ex hM c1
    cases c2 : inB a2 (-1) 5 with
    | false =>
      exact ⟨1, 0, F, ik, kp, tu, n, hok, hb_lossWith_1 l D cI cZ cO cJ (nI x) a2 (c_x (x_lossWith_b l hl0 D cI cZ cO hR x a2 hx c2)) (by decide) (by decide) hR.x hou hL hA hC0, c_md (m_lossWith_1 l D cI cZ ad A2 F ow mp nm5 gb5 ob5 ik kp tu g hA2 (nI x) a2 (by rw [c2, Bool.and_false])) hg rfl (fun h => absurd h (by decide))⟩
    | true =>
      exact ⟨0, mL F o0 x a2, _, _, _, _, _, hok, hg_lossWith l D cI cZ cO cJ (nI x) a2 (c_wr (k_X4_lossWith l D cI cZ cO hR A hL hA x a2 hM hE hx (grp_of c2)) hL hA rfl rfl) ⟨rfl, rfl, by decide, by decide, by decide, by decide⟩ hR.x hou, c_md (m_lossWith l D cI cZ ad A2 F ow mp nm5 gb5 ob5 ik kp tu g hA2 x a2 n hMg hx c2) hg rfl (fun _ => by rw [mL_any])⟩
set_option maxHeartbeats 800000 in
theorem pr_isFresh {l : Launch} (hl0 : l.stackTraces = false) {D : va_G} {cI cZ cO cJ : ClassId} {F : Nat → Nat → Int32} {ik kp tu : Nat → Int32} {n : Nat} (hok : okS F ik kp tu n) {L : List Nat} {f : Nat → va_E} {tg : Nat → Nat} {AD : Nat → Nat → Nat} {mc : Nat → Int32} {he gv : Nat → Int32} {gp gb ob nm lo : Int32} (hR : Rep cI cO L f tg AD mc F ik kp tu n he gv gp gb ob nm lo) (hL : L.Nodup) {A : Nat → Prop} (hA : ∀ a, a ∈ L → A a) {z mi ou : Nat} {w : Nat → Int64} (hAz : ∀ q, z ≤ q → A q) (hne : ¬ A (AD 7 0)) (hou : ¬ A ou) {ad : Nat → Nat} {ow mp : Nat → Int32} {nm5 gb5 ob5 : Int32} {g : Nat → Int32} (hg : g 6 = nI n) {A2 : Nat → Prop} (hA2 : apD 16 A2 ad) (a1 : Int32) : PR l yL_isFresh wsL_isFresh yX5_isFresh wsX5_isFresh (rmr 7 170) D cI cZ cO cJ A L f (AD 0 0) (AD 7 0) z mi ou w ad A2 [.ref (AD 0 0), .int a1, .ref ou] [.ref (ad 0), .int a1] lvZ F ow mp nm5 gb5 ob5 ik kp tu g := by
  obtain ⟨hM, hE, hB, hw6, hZ⟩ := id hok
  have hMg : okM F g n := ⟨hg, hM.2⟩
  have hn20 := hM.2.1
  have hC0 : ∀ H : Heap, va_P D vwCl (va_pl L f) H → CX D cI cO A (AD 0 0) (AD 7 0) F ik kp tu n H := fun H hP => ⟨he, gv, gp, gb, ob, nm, lo, L, f, tg, AD, mc, hL, hA, rfl, rfl, hP, hR⟩
  cases c1 : inB a1 0 (nI n - 1) with
  | false =>
    exact ⟨1, 0, F, ik, kp, tu, n, hok, hb_isFresh_1 l D cI cZ cO cJ a1 (c_x (x_isFresh l hl0 D cI cZ cO hR a1 hM c1)) (by decide) (by decide) hR.x hou hL hA hC0, c_md (m_isFresh_1 l D cI cZ ad A2 F ow mp nm5 gb5 ob5 ik kp tu g hA2 a1 (by rw [hg]; exact c1)) hg rfl (fun h => absurd h (by decide))⟩
  | true =>
    obtain ⟨x, hx, rfl⟩ := fold_ex hM c1
    exact ⟨0, b2i (frB ik kp (mMP F o0 gv x) x 8), _, _, _, _, _, hok, hg_isFresh l D cI cZ cO cJ (nI x) (c_wr (k_X4_isFresh l D cI cZ cO hR A hL hA x hM hE hx) hL hA rfl rfl) ⟨rfl, rfl, by decide, by decide, by decide, by decide⟩ hR.x hou, c_md (m_isFresh l D cI cZ ad A2 F ow mp nm5 gb5 ob5 ik kp tu g hA2 x n hMg hx hB) hg rfl (fun _ => by rw [fresh_any F ow mp gv])⟩
set_option maxHeartbeats 800000 in
theorem pr_turn {l : Launch} (hl0 : l.stackTraces = false) {D : va_G} {cI cZ cO cJ : ClassId} {F : Nat → Nat → Int32} {ik kp tu : Nat → Int32} {n : Nat} (hok : okS F ik kp tu n) {L : List Nat} {f : Nat → va_E} {tg : Nat → Nat} {AD : Nat → Nat → Nat} {mc : Nat → Int32} {he gv : Nat → Int32} {gp gb ob nm lo : Int32} (hR : Rep cI cO L f tg AD mc F ik kp tu n he gv gp gb ob nm lo) (hL : L.Nodup) {A : Nat → Prop} (hA : ∀ a, a ∈ L → A a) {z mi ou : Nat} {w : Nat → Int64} (hAz : ∀ q, z ≤ q → A q) (hne : ¬ A (AD 7 0)) (hou : ¬ A ou) {ad : Nat → Nat} {ow mp : Nat → Int32} {nm5 gb5 ob5 : Int32} {g : Nat → Int32} (hg : g 6 = nI n) {A2 : Nat → Prop} (hA2 : apD 16 A2 ad) (a1 : Int32) : PR l yL_turn wsL_turn yX5_turn wsX5_turn (rmr 2 43) D cI cZ cO cJ A L f (AD 0 0) (AD 7 0) z mi ou w ad A2 [.ref (AD 0 0), .int a1, .ref ou] [.ref (ad 0), .int a1] lvZ F ow mp nm5 gb5 ob5 ik kp tu g := by
  obtain ⟨hM, hE, hB, hw6, hZ⟩ := id hok
  have hMg : okM F g n := ⟨hg, hM.2⟩
  have hn20 := hM.2.1
  have hC0 : ∀ H : Heap, va_P D vwCl (va_pl L f) H → CX D cI cO A (AD 0 0) (AD 7 0) F ik kp tu n H := fun H hP => ⟨he, gv, gp, gb, ob, nm, lo, L, f, tg, AD, mc, hL, hA, rfl, rfl, hP, hR⟩
  cases c1 : inB a1 0 (nI n - 1) with
  | false =>
    exact ⟨1, 0, F, ik, kp, tu, n, hok, hb_turn_1 l D cI cZ cO cJ a1 (c_x (x_turn_a l hl0 D cI cZ cO hR a1 hM c1)) (by decide) (by decide) hR.x hou hL hA hC0, c_md (m_turn_1 l D cI cZ ad A2 F ow mp nm5 gb5 ob5 ik kp tu g hA2 a1 (by rw [hg]; exact c1)) hg rfl (fun h => absurd h (by decide))⟩
  | true =>
    obtain ⟨x, hx, rfl⟩ := fold_ex hM c1
    by_cases hk : ik x = 0
    ·
      exact ⟨2, 0, F, ik, kp, tu, n, hok, hb_turn_2 l D cI cZ cO cJ (nI x) (c_x (x_turn_b l hl0 D cI cZ cO hR x hx hk)) (by decide) (by decide) hR.x hou hL hA hC0, c_md (m_turn_2 l D cI cZ ad A2 F ow mp nm5 gb5 ob5 ik kp tu g hA2 x n hMg hx hk) hg rfl (fun h => absurd h (by decide))⟩
    ·
      exact ⟨0, b2i (!toB (tu x)), _, _, _, _, _, hok.settu hx _, hg_turn l D cI cZ cO cJ (nI x) (c_wr (k_X4_turn l D cI cZ cO hR A hL hA x hx hB hk) hL hA rfl rfl) ⟨rfl, rfl, by decide, by decide, by decide, by decide⟩ hR.x hou, c_md (m_turn l D cI cZ ad A2 F ow mp nm5 gb5 ob5 ik kp tu g hA2 x n hMg hx hB hk) hg rfl (fun _ => rfl)⟩
set_option maxHeartbeats 800000 in
theorem pr_rightsNow {l : Launch} (hl0 : l.stackTraces = false) {D : va_G} {cI cZ cO cJ : ClassId} {F : Nat → Nat → Int32} {ik kp tu : Nat → Int32} {n : Nat} (hok : okS F ik kp tu n) {L : List Nat} {f : Nat → va_E} {tg : Nat → Nat} {AD : Nat → Nat → Nat} {mc : Nat → Int32} {he gv : Nat → Int32} {gp gb ob nm lo : Int32} (hR : Rep cI cO L f tg AD mc F ik kp tu n he gv gp gb ob nm lo) (hL : L.Nodup) {A : Nat → Prop} (hA : ∀ a, a ∈ L → A a) {z mi ou : Nat} {w : Nat → Int64} (hAz : ∀ q, z ≤ q → A q) (hne : ¬ A (AD 7 0)) (hou : ¬ A ou) {ad : Nat → Nat} {ow mp : Nat → Int32} {nm5 gb5 ob5 : Int32} {g : Nat → Int32} (hg : g 6 = nI n) {A2 : Nat → Prop} (hA2 : apD 16 A2 ad) (a1 : Int32) (a2 : Int32) : PR l yL_rightsNow wsL_rightsNow yX5_rightsNow wsX5_rightsNow (rmr 6 141) D cI cZ cO cJ A L f (AD 0 0) (AD 7 0) z mi ou w ad A2 [.ref (AD 0 0), .int a1, .int a2, .ref ou] [.ref (ad 0), .int a1, .int a2] lvI F ow mp nm5 gb5 ob5 ik kp tu g := by
  obtain ⟨hM, hE, hB, hw6, hZ⟩ := id hok
  have hMg : okM F g n := ⟨hg, hM.2⟩
  have hn20 := hM.2.1
  have hC0 : ∀ H : Heap, va_P D vwCl (va_pl L f) H → CX D cI cO A (AD 0 0) (AD 7 0) F ik kp tu n H := fun H hP => ⟨he, gv, gp, gb, ob, nm, lo, L, f, tg, AD, mc, hL, hA, rfl, rfl, hP, hR⟩
  cases c1 : inB a1 0 7 with
  | false =>
    exact ⟨1, 0, F, ik, kp, tu, n, hok, hb_rightsNow_1 l D cI cZ cO cJ a1 a2 (c_x (x_rightsNow_a l hl0 D cI cZ cO hR a1 a2 c1)) (by decide) (by decide) hR.x hou hL hA hC0, c_md (m_rightsNow_1 l D cI cZ ad A2 F ow mp nm5 gb5 ob5 ik kp tu g hA2 a1 a2 (by rw [c1]; rfl)) hg rfl (fun h => absurd h (by decide))⟩
  | true =>
    obtain ⟨x, hx, rfl⟩ := inB_ex (N := 7) (by decide) c1
    cases c2 : inB a2 0 (nI n - 1) with
    | false =>
      exact ⟨1, 0, F, ik, kp, tu, n, hok, hb_rightsNow_1 l D cI cZ cO cJ (nI x) a2 (c_x (x_rightsNow_b l hl0 D cI cZ cO hR x a2 hM (by omega) c2)) (by decide) (by decide) hR.x hou hL hA hC0, c_md (m_rightsNow_1 l D cI cZ ad A2 F ow mp nm5 gb5 ob5 ik kp tu g hA2 (nI x) a2 (by rw [hg, c2, Bool.and_false])) hg rfl (fun h => absurd h (by decide))⟩
    | true =>
      obtain ⟨y, hy, rfl⟩ := fold_ex hM c2
      exact ⟨0, mNow F kp tu x y, _, _, _, _, _, hok, hg_rightsNow l D cI cZ cO cJ (nI x) (nI y) (c_read (k_X4_rightsNow l D cI cZ cO hR x y hM hE hy (by omega)) hC0) ⟨rfl, rfl, by decide, by decide, by decide, by decide⟩ hR.x hou, c_md (m_rightsNow l D cI cZ ad A2 F ow mp nm5 gb5 ob5 ik kp tu g hA2 x y n hMg (by omega) hy) hg rfl (fun _ => rfl)⟩
set_option maxHeartbeats 800000 in
theorem pr_gainers {l : Launch} (hl0 : l.stackTraces = false) {D : va_G} {cI cZ cO cJ : ClassId} {F : Nat → Nat → Int32} {ik kp tu : Nat → Int32} {n : Nat} (hok : okS F ik kp tu n) {L : List Nat} {f : Nat → va_E} {tg : Nat → Nat} {AD : Nat → Nat → Nat} {mc : Nat → Int32} {he gv : Nat → Int32} {gp gb ob nm lo : Int32} (hR : Rep cI cO L f tg AD mc F ik kp tu n he gv gp gb ob nm lo) (hL : L.Nodup) {A : Nat → Prop} (hA : ∀ a, a ∈ L → A a) {z mi ou : Nat} {w : Nat → Int64} (hAz : ∀ q, z ≤ q → A q) (hne : ¬ A (AD 7 0)) (hou : ¬ A ou) {ad : Nat → Nat} {ow mp : Nat → Int32} {nm5 gb5 ob5 : Int32} {g : Nat → Int32} (hg : g 6 = nI n) {A2 : Nat → Prop} (hA2 : apD 16 A2 ad) (a1 : Int32) : PR l yL_gainers wsL_gainers yX5_gainers wsX5_gainers (rmr 6 141) D cI cZ cO cJ A L f (AD 0 0) (AD 7 0) z mi ou w ad A2 [.ref (AD 0 0), .int a1, .ref ou] [.ref (ad 0), .int a1] lvI F ow mp nm5 gb5 ob5 ik kp tu g := by
  obtain ⟨hM, hE, hB, hw6, hZ⟩ := id hok
  have hMg : okM F g n := ⟨hg, hM.2⟩
  have hn20 := hM.2.1
  have hC0 : ∀ H : Heap, va_P D vwCl (va_pl L f) H → CX D cI cO A (AD 0 0) (AD 7 0) F ik kp tu n H := fun H hP => ⟨he, gv, gp, gb, ob, nm, lo, L, f, tg, AD, mc, hL, hA, rfl, rfl, hP, hR⟩
  cases c1 : inB a1 0 (nI n - 1) with
  | false =>
    exact ⟨1, 0, F, ik, kp, tu, n, hok, hb_gainers_1 l D cI cZ cO cJ a1 (c_x (x_gainers l hl0 D cI cZ cO hR a1 hM c1)) (by decide) (by decide) hR.x hou hL hA hC0, c_md (m_gainers_1 l D cI cZ ad A2 F ow mp nm5 gb5 ob5 ik kp tu g hA2 a1 (by rw [hg]; exact c1)) hg rfl (fun h => absurd h (by decide))⟩
  | true =>
    obtain ⟨x, hx, rfl⟩ := fold_ex hM c1
    exact ⟨0, gnr F kp tu x 8, _, _, _, _, _, hok, hg_gainers l D cI cZ cO cJ (nI x) (c_read (k_X4_gainers l D cI cZ cO hR x hM hE hx) hC0) ⟨rfl, rfl, by decide, by decide, by decide, by decide⟩ hR.x hou, c_md (m_gainers l D cI cZ ad A2 F ow mp nm5 gb5 ob5 ik kp tu g hA2 x n hMg hx) hg rfl (fun _ => rfl)⟩
