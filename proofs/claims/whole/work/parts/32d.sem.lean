theorem clamp_le (z : Int) (m : Nat) : clampN z m ≤ m := by unfold clampN; split; omega; split <;> omega
theorem ok_Y {k r v : Nat} {p : Nat → Nat} (hp : pOK k r p) (h : v ≤ pgH k r) : pOK k r (nset p 1 v) := by
  obtain ⟨h0, h1, h2, h3, h4, h5, h6, h7, h8, h9, h10, h11, h12, h13⟩ := hp
  refine ⟨?_, ?_, ?_, ?_, ?_, ?_, ?_, ?_, ?_, ?_, ?_, ?_, ?_, fun i hi => ?_⟩
  all_goals unfold nset
  all_goals first | (rw [if_neg (by omega)]; first | assumption | exact h13 i hi) | (rw [if_pos (by omega)]; exact h)
theorem ok_X {k r v : Nat} {p : Nat → Nat} (hp : pOK k r p) (h : v ≤ pgW k r) : pOK k r (nset p 0 v) := by
  obtain ⟨h0, h1, h2, h3, h4, h5, h6, h7, h8, h9, h10, h11, h12, h13⟩ := hp
  refine ⟨?_, ?_, ?_, ?_, ?_, ?_, ?_, ?_, ?_, ?_, ?_, ?_, ?_, fun i hi => ?_⟩
  all_goals unfold nset
  all_goals first | (rw [if_neg (by omega)]; first | assumption | exact h13 i hi) | (rw [if_pos (by omega)]; exact h)
theorem rsR_mono {d T T' : Nat} {oR : ob_Raster} {or : ob_Ref} {g gm : Nat → Int32} (hT : T ≤ T') (h : rsR d T oR or g gm) : rsR d T' oR or g gm := by
  obtain ⟨op, rsl, md, nw, nh, a1, a2, a3, a4, a5, a6, a7, a8, a9, a10, a11, a12, a13, a14, a15, a16, a17⟩ := h
  refine ⟨op, rsl, md, nw, nh, a1, a2, a3, a4, a5, a6, a7, a8, a9, a10, a11, a12, a13, a14, a15, a16, fun hq => ?_⟩
  obtain ⟨h1, X, Y, sc, rw_, W, H, p1, p2, p3, p4, p5, p6, p7, p8, p9, p10, p11, p12, p13, p14, p15, p16, p17, p18, p19, p20, p21, p22⟩ := a17 hq
  exact ⟨h1, X, Y, sc, rw_, W, H, p1, p2, p3, p4, p5, p6, p7, p8, p9, p10, p11, p12, p13, p14, p15, p16, p17, p18, by omega, p20, p21, p22⟩
theorem ras_t {N d T e n nd : Nat} {oi : ob_Interpreter} {oR : ob_Raster} {or : ob_Ref} {od : ob_mDesk} {os : ob_mSheet} {g gm gS gf gs : Nat → Int32} {b : Nat → Int64} {v3 : Int32} (h : rsR d T oR or g gm) (he : e < 256) (hn : n ≤ 32767) :
    ∃ oR' or', ex_Interpreter_doResolution N oi oR (nI e) (nI n) = some oR' ∧ ex_Ref_raster N or od gm gS os gf gs nd b 116 (nI e) (nI n) v3 = some (or', od, gm, gS, os, gf, b) ∧ rsR d T oR' or' g gm ∧ rfF or or' := by
  have h' := h
  obtain ⟨op, rsl, md, nw, nh, a1, a2, a3, a4, a5, a6, a7, a8, a9, a10, a11, a12, a13, a14, a15, a16, a17⟩ := h'
  unfold ex_Interpreter_doResolution ex_Ref_raster jn_Ref_raster_326h7 jn_Ref_raster_45a26 jn_Ref_raster_326h7 ex_Raster_setResolution
  rw [if_pos rfl]
  have stay : ∃ oR' or', some oR = some oR' ∧ some (or, od, gm, gS, os, gf, b) = some (or', od, gm, gS, os, gf, b) ∧ rsR d T oR' or' g gm ∧ rfF or or' := ⟨oR, or, rfl, rfl, h, rfF_refl or⟩
  by_cases q : e = 82
  · subst q
    rw [if_pos (show nI 82 = 82 from rfl), if_pos (show nI 82 = 82 from rfl), a1, a2]
    cases op with
    | true => rw [if_neg (show ¬ nI (true).toNat = 0 by decide), if_neg (show ¬ nI (true).toNat = 0 by decide)]; exact stay
    | false =>
      rw [if_pos (show nI (false).toNat = 0 from rfl), if_pos (show nI (false).toNat = 0 from rfl)]
      have put : (75 ≤ n ∧ n ≤ 300) → rsR d T (fs_Raster_resolution oR (nI n)) (fs_Ref_resolution or (nI n)) g gm := fun hh => ⟨false, n, md, nw, nh, a1, a2, rfl, rfl, hh, a6, a7, a8, a9, a10, a11, a12, a13, a14, a15, a16, fun hq => absurd hq (by decide)⟩
      have fr : rfF or (fs_Ref_resolution or (nI n)) := ⟨rfl, rfl, rfl, rfl, rfl, rfl, rfl, rfl, rfl, rfl, rfl, rfl, rfl, rfl, rfl⟩
      by_cases q1 : n = 75
      · have c : nI n = 75 := by rw [q1]; rfl
        rw [if_pos c, if_pos c]; exact ⟨_, _, rfl, rfl, put (by omega), fr⟩
      have c1 : ¬ nI n = 75 := mt (nI_eq (b := 75) (by omega) (by omega)).mp q1
      rw [if_neg c1, if_neg c1]
      by_cases q2 : n = 100
      · have c : nI n = 100 := by rw [q2]; rfl
        rw [if_pos c, if_pos c]; exact ⟨_, _, rfl, rfl, put (by omega), fr⟩
      have c2 : ¬ nI n = 100 := mt (nI_eq (b := 100) (by omega) (by omega)).mp q2
      rw [if_neg c2, if_neg c2]
      by_cases q3 : n = 150
      · have c : nI n = 150 := by rw [q3]; rfl
        rw [if_pos c, if_pos c]; exact ⟨_, _, rfl, rfl, put (by omega), fr⟩
      have c3 : ¬ nI n = 150 := mt (nI_eq (b := 150) (by omega) (by omega)).mp q3
      rw [if_neg c3, if_neg c3]
      by_cases q4 : n = 300
      · have c : nI n = 300 := by rw [q4]; rfl
        rw [if_pos c, if_pos c]; exact ⟨_, _, rfl, rfl, put (by omega), fr⟩
      have c4 : ¬ nI n = 300 := mt (nI_eq (b := 300) (by omega) (by omega)).mp q4
      rw [if_neg c4, if_neg c4]; exact stay
  · have c : ¬ nI e = 82 := mt (nI_eq (b := 82) (by omega) (by omega)).mp q
    rw [if_neg c, if_neg c]; exact stay
/-- the raster is shut on both sides -/
theorem rs_shut {N d k r cp T : Nat} {p : Nat → Nat} {oR : ob_Raster} {or : ob_Ref} {od : ob_mDesk} {g gm gS : Nat → Int32} (hd : isDpi d) (hk : k < 5) (hr : r < 4) (hT : T ≤ 2 ^ 27) (h : rsR d T oR or g gm) (ho : fd_Raster_open oR = 1) (hdk : dkM k r cp p od gS) (hp : pOK k r p) :
    ∃ u v op' oR' or' gS' p', ex_Page_dotDown N (pgC d k r cp p) (fd_Raster_y oR) = some u ∧ ex_Raster_close N oR = some (oR', v) ∧ ex_Page_setY N (pgC d k r cp p) (((u + v).toInt64) * ((7200 / (nI d)).toInt64)) = some op' ∧ op' = pgC d k r cp p' ∧ ex_Ref_shut N or od gS = some (or', gS') ∧ dkM k r cp p' od gS' ∧ pOK k r p' ∧ rsR d T oR' or' g gm ∧ rfF or or' := by
  obtain ⟨op, rsl, md, nw, nh, a1, a2, a3, a4, a5, a6, a7, a8, a9, a10, a11, a12, a13, a14, a15, a16, a17⟩ := h
  have ht : op = true := by
    cases op with
    | true => rfl
    | false => rw [a1] at ho; exact absurd ho (by decide)
  subst ht
  obtain ⟨hsd, X, Y, sc, rw_, W, H, p1, p2, p3, p4, p5, p6, p7, p8, p9, p10, p11, p12, p13, p14, p15, p16, p17, p18, p19, p20, p21, p22⟩ := a17 rfl
  have hd3 : d ≤ 300 := by rcases hd with rfl | rfl | rfl <;> omega
  have hd0 : 75 ≤ d := by rcases hd with rfl | rfl | rfl <;> omega
  have hy5 := dot_le (d := d) (a := Y) hd3 (by omega)
  obtain ⟨rr, hrr⟩ : ∃ rr, rr = if H = 0 then rw_ else H := ⟨_, rfl⟩
  have hrb : rr ≤ 30000 + 2 ^ 27 := by rw [hrr]; split <;> omega
  have hsr : sc * rr ≤ 4 * (30000 + 2 ^ 27) := Nat.mul_le_mul p18 hrb
  have e72 : 7200 / nI d = nI (7200 / d) := nI_div (a := 7200) (by omega) (by omega)
  have hq : 7200 / d ≤ 96 := by
    have : 7200 / d ≤ 7200 / 75 := Nat.div_le_div_left hd0 (by omega)
    omega
  obtain ⟨z, hz⟩ : ∃ z, z = (dotN d Y + sc * rr) * (7200 / d) := ⟨_, rfl⟩
  have hzb : z ≤ 600000000 * 96 := by rw [hz]; exact Nat.mul_le_mul (by omega) hq
  obtain ⟨gS', y1, y2⟩ := md_Y (N := N) (z : Int) hk (by omega) hdk
  have y3 := pg_Y (N := N) (d := d) (cp := cp) (p := p) (z : Int) hk hr (by omega)
  have nd0 : ¬ nI d = 0 := nI_ne0 (by omega) (by omega)
  have cls : ex_Raster_close N oR = some ((if H = 0 then fs_Raster_method (fs_Raster_open oR 0) 0 else fs_Raster_method (fs_Raster_row (fs_Raster_open oR 0) (nI H)) 0), nI (sc * rr)) := by
    unfold ex_Raster_close
    rw [p11, p5, p7]
    by_cases q : H = 0
    · rw [if_pos (show nI H = 0 by rw [q]; rfl), if_pos q, hrr, if_pos q, nI_mul]
    · rw [if_neg (show ¬ nI H = 0 from nI_ne0 (by omega) (by omega)), if_neg q, hrr, if_neg q, nI_mul]
  refine ⟨nI (dotN d Y), nI (sc * rr), _, _, fs_Ref_open (fs_Ref_method or 0) 0, gS', _, by rw [p3]; exact pg_dotD hd3 p16 rfl, cls, ?_, rfl, ?_, y2, ?_, ?_, ⟨rfl, rfl, rfl, rfl, rfl, rfl, rfl, rfl, rfl, rfl, rfl, rfl, rfl, rfl, rfl⟩⟩
  · rw [nI_add, e72, nI_l (by omega), nI_l (by omega), lN_mul, ← hz]; exact y3
  · unfold ex_Ref_shut
    have q2' : fd_Ref_dpi (fs_Ref_open (fs_Ref_method or 0) 0) = nI d := a16
    rw [p12, p4, rf_dotY hd p16 q2', a16, e72, p6, p8]
    simp only [Option.bind_some, dk_let, if_pos nd0]
    have y1' : ex_mDesk_setY N od gS (lN z) = some gS' := y1
    by_cases q : H = 0
    · rw [if_pos (show nI H ≤ 0 by rw [q]; decide), nI_l (by omega), nI_l (by omega), nI_l (by omega), nI_l (by omega), lN_mul, lN_add, lN_mul]
      have : (dotN d Y + sc * rw_) * (7200 / d) = z := by rw [hz, hrr, if_pos q]
      rw [this, y1']; rfl
    · rw [if_neg (show ¬ nI H ≤ 0 from nI_nle (by omega) (by omega)), nI_l (by omega), nI_l (by omega), nI_l (by omega), nI_l (by omega), lN_mul, lN_add, lN_mul]
      have : (dotN d Y + sc * H) * (7200 / d) = z := by rw [hz, hrr, if_neg q]
      rw [this, y1']; rfl
  · exact ok_Y hp (clamp_le _ _)
  · by_cases q : H = 0
    · rw [if_pos q]
      exact ⟨false, rsl, 0, nw, nh, rfl, rfl, a3, a4, a5, rfl, rfl, by omega, a9, a10, a11, a12, a13, a14, a15, a16, fun hq => absurd hq (by decide)⟩
    · rw [if_neg q]
      exact ⟨false, rsl, 0, nw, nh, rfl, rfl, a3, a4, a5, rfl, rfl, by omega, a9, a10, a11, a12, a13, a14, a15, a16, fun hq => absurd hq (by decide)⟩
theorem ras_r {N d k r cp T e n nd : Nat} {p : Nat → Nat} {oi : ob_Interpreter} {oR : ob_Raster} {or : ob_Ref} {od : ob_mDesk} {os : ob_mSheet} {g gm gS gf gs : Nat → Int32} {b : Nat → Int64} {v3 : Int32} (hN : 1000 < N) (hd : isDpi d) (hk : k < 5) (hr : r < 4) (hT : T ≤ 2 ^ 27) (h : rsR d T oR or g gm) (he : e < 256) (hn : n ≤ 32767) (hdk : dkM k r cp p od gS) (hp : pOK k r p) :
    ∃ oR' or' g' gm' gS' p', ex_Interpreter_doRaster N oi oR (pgC d k r cp p) g (nI e) (nI n) = some (oR', pgC d k r cp p', g') ∧ ex_Ref_raster N or od gm gS os gf gs nd b 114 (nI e) (nI n) v3 = some (or', od, gm', gS', os, gf, b) ∧ rsR d T oR' or' g' gm' ∧ rfF or or' ∧ dkM k r cp p' od gS' ∧ pOK k r p' := by
  have h' := h
  obtain ⟨op, rsl, md, nw, nh, a1, a2, a3, a4, a5, a6, a7, a8, a9, a10, a11, a12, a13, a14, a15, a16, a17⟩ := h'
  have hd3 : d ≤ 300 := by rcases hd with rfl | rfl | rfl <;> omega
  have hd0 : 75 ≤ d := by rcases hd with rfl | rfl | rfl <;> omega
  have hW := pgW_le (k := k) (r := r) hk
  have hH := pgH_le (k := k) (r := r) hk
  have hp0 := hp.1
  have hp1 := hp.2.1
  have g0 : gS 0 = nI (p 0) := hdk.2.2.2.2.2 0 (by omega)
  have g1 : gS 1 = nI (p 1) := hdk.2.2.2.2.2 1 (by omega)
  have px : fd_Page_x (pgC d k r cp p) = nI (p 0) := rfl
  have py : fd_Page_y (pgC d k r cp p) = nI (p 1) := rfl
  have pd : fd_Page_dpi (pgC d k r cp p) = nI d := rfl
  have nd0 : ¬ nI d = 0 := nI_ne0 (by omega) (by omega)
  have stay : ∃ oR' or' g' gm' gS' p', some (oR, pgC d k r cp p, g) = some (oR', pgC d k r cp p', g') ∧ some (or, od, gm, gS, os, gf, b) = some (or', od, gm', gS', os, gf, b) ∧ rsR d T oR' or' g' gm' ∧ rfF or or' ∧ dkM k r cp p' od gS' ∧ pOK k r p' := ⟨oR, or, g, gm, gS, p, rfl, rfl, h, rfF_refl or, hdk, hp⟩
  have ne : ∀ c : Nat, c < 256 → e ≠ c → ¬ nI e = nI c := fun c hc hq => mt (nI_eq (by omega) (by omega)).mp hq
  have op_ : ∀ X : Nat, X ≤ 122400 → ∃ oR' or' g' gm' gS' p', (ex_Raster_openAt N oR g (nI X) (nI (p 1))).bind (fun u => some (u.1, pgC d k r cp p, u.2)) = some (oR', pgC d k r cp p', g') ∧ (ex_Ref_openRaster N or od gS gm (nI X)).bind (fun u => some (u.1, od, u.2, gS, os, gf, b)) = some (or', od, gm', gS', os, gf, b) ∧ rsR d T oR' or' g' gm' ∧ rfF or or' ∧ dkM k r cp p' od gS' ∧ pOK k r p' := by
    intro X hX
    obtain ⟨oR', or', g', gm', e1, e2, e3, e4, e5⟩ := rs_open (N := N) (od := od) hN hd3 h hX (by omega) g1
    rw [e1, e2]
    exact ⟨oR', or', g', gm', gS, p, rfl, rfl, e3, e5, hdk, hp⟩
  have sh_ : (if fd_Raster_open oR = 0 then (some (oR, pgC d k r cp p, g) : Option rs_Interpreter_doRaster) else ((ex_Page_dotDown N (pgC d k r cp p) (fd_Raster_y oR)).bind (fun u_7 => (ex_Raster_close N oR).bind (fun u_10 => if ¬ (fd_Page_dpi (pgC d k r cp p)) = 0 then ((ex_Page_setY N (pgC d k r cp p) (((u_7 + u_10.2).toInt64) * ((7200 / (fd_Page_dpi (pgC d k r cp p))).toInt64))).bind (fun u_14 => some (u_10.1, u_14, g))) else none)))) = (if fd_Raster_open oR = 0 then (some (oR, pgC d k r cp p, g) : Option rs_Interpreter_doRaster) else ((ex_Page_dotDown N (pgC d k r cp p) (fd_Raster_y oR)).bind (fun u_7 => (ex_Raster_close N oR).bind (fun u_10 => if ¬ (nI d) = 0 then ((ex_Page_setY N (pgC d k r cp p) (((u_7 + u_10.2).toInt64) * ((7200 / (nI d)).toInt64))).bind (fun u_14 => some (u_10.1, u_14, g))) else none)))) := rfl
  have shut_ : ∃ oR' or' g' gm' gS' p', (if fd_Raster_open oR = 0 then (some (oR, pgC d k r cp p, g) : Option rs_Interpreter_doRaster) else ((ex_Page_dotDown N (pgC d k r cp p) (fd_Raster_y oR)).bind (fun u_7 => (ex_Raster_close N oR).bind (fun u_10 => if ¬ (nI d) = 0 then ((ex_Page_setY N (pgC d k r cp p) (((u_7 + u_10.2).toInt64) * ((7200 / (nI d)).toInt64))).bind (fun u_14 => some (u_10.1, u_14, g))) else none)))) = some (oR', pgC d k r cp p', g') ∧ jn_Ref_raster_148z25 N or od gm gS os gf b = some (or', od, gm', gS', os, gf, b) ∧ rsR d T oR' or' g' gm' ∧ rfF or or' ∧ dkM k r cp p' od gS' ∧ pOK k r p' := by
    unfold jn_Ref_raster_148z25 jn_Ref_raster_326h7
    cases op with
    | false =>
      rw [a1, a2, if_pos (show nI (false).toNat = 0 from rfl), if_pos (show nI (false).toNat = 0 from rfl)]; exact stay
    | true =>
      rw [a1, a2, if_neg (show ¬ nI (true).toNat = 0 by decide), if_neg (show ¬ nI (true).toNat = 0 by decide)]
      obtain ⟨u, v, op', oR', or', gS', p', e1, e2, e3, e4, e5, e6, e7, e8, e9⟩ := rs_shut (N := N) hd hk hr hT h a1 hdk hp
      rw [e1, e2, e5]
      simp only [Option.bind_some, if_pos nd0]
      rw [e3, e4]
      exact ⟨oR', or', g, gm, gS', p', rfl, rfl, e8, e9, e6, e7⟩
  unfold ex_Interpreter_doRaster ex_Ref_raster jn_Ref_raster_80w22 jn_Ref_raster_101x23 jn_Ref_raster_136y24
  rw [px, py, g0, sh_, if_neg (show ¬ (114 : Int32) = 116 by decide), if_pos (show (114 : Int32) = 114 from rfl)]
  by_cases q65 : e = 65
  · subst q65
    simp only [if_pos (show nI 65 = 65 from rfl), if_neg (show ¬ nI 65 = 83 by decide), if_neg (show ¬ nI 65 = 84 by decide), if_neg (show ¬ nI 65 = 66 by decide), if_neg (show ¬ nI 65 = 67 by decide), jn_Ref_raster_326h7]
    by_cases q2 : 2 ≤ n
    · rw [if_pos (show (1 : Int32) < nI n from nI_lt (a := 1) q2 (by omega)), if_pos (show (2 : Int32) ≤ nI n from nI_le (a := 2) q2 (by omega))]; exact stay
    · rw [if_neg (show ¬ (1 : Int32) < nI n from nI_nlt (a := 1) (by omega) (by omega)), if_neg (show ¬ (2 : Int32) ≤ nI n from nI_ge (b := 2) (by omega) (by omega))]
      have : n = 0 ∨ n = 1 := by omega
      rcases this with rfl | rfl
      · rw [if_neg (show ¬ nI 0 = 1 by decide), if_pos (show nI 0 = 0 from rfl)]; exact op_ 0 (by omega)
      · rw [if_pos (show nI 1 = 1 from rfl), if_neg (show ¬ nI 1 = 0 by decide)]; exact op_ (p 0) (by omega)
  by_cases q66 : e = 66
  · subst q66
    simp only [if_pos (show nI 66 = 66 from rfl), if_neg (show ¬ nI 66 = 83 by decide), if_neg (show ¬ nI 66 = 84 by decide), if_neg (show ¬ nI 66 = 65 by decide)]
    exact shut_
  by_cases q67 : e = 67
  · subst q67
    simp only [if_pos (show nI 67 = 67 from rfl), if_neg (show ¬ nI 67 = 83 by decide), if_neg (show ¬ nI 67 = 84 by decide), if_neg (show ¬ nI 67 = 65 by decide), if_neg (show ¬ nI 67 = 66 by decide)]
    exact shut_
  have n65 : ¬ nI e = 65 := ne 65 (by omega) q65
  have n66 : ¬ nI e = 66 := ne 66 (by omega) q66
  have n67 : ¬ nI e = 67 := ne 67 (by omega) q67
  simp only [if_neg n65, if_neg n66, if_neg n67, jn_Ref_raster_326h7]
  unfold ex_Raster_setNextWidth ex_Raster_setNextHeight
  by_cases q83 : e = 83
  · subst q83
    rw [if_pos (show nI 83 = 83 from rfl), if_pos (show nI 83 = 83 from rfl), if_neg (show ¬ nI 83 = 84 by decide)]
    by_cases q : 5120 ≤ n
    · rw [if_pos (show (5119 : Int32) < nI n from nI_lt (a := 5119) q (by omega)), if_pos (show (5120 : Int32) ≤ nI n from nI_le (a := 5120) q (by omega))]; exact stay
    · rw [if_neg (show ¬ (5119 : Int32) < nI n from nI_nlt (a := 5119) (by omega) (by omega)), if_neg (show ¬ (5120 : Int32) ≤ nI n from nI_ge (b := 5120) (by omega) (by omega))]
      exact ⟨_, _, g, gm, gS, p, rfl, rfl, ⟨op, rsl, md, n, nh, a1, a2, a3, a4, a5, a6, a7, a8, rfl, rfl, by omega, a12, a13, a14, a15, a16, a17⟩, ⟨rfl, rfl, rfl, rfl, rfl, rfl, rfl, rfl, rfl, rfl, rfl, rfl, rfl, rfl, rfl⟩, hdk, hp⟩
  have n83 : ¬ nI e = 83 := ne 83 (by omega) q83
  rw [if_neg n83, if_neg n83]
  by_cases q84 : e = 84
  · subst q84
    rw [if_pos (show nI 84 = 84 from rfl), if_pos (show nI 84 = 84 from rfl)]
    by_cases q : 5120 ≤ n
    · rw [if_pos (show (5119 : Int32) < nI n from nI_lt (a := 5119) q (by omega)), if_pos (show (5120 : Int32) ≤ nI n from nI_le (a := 5120) q (by omega))]; exact stay
    · rw [if_neg (show ¬ (5119 : Int32) < nI n from nI_nlt (a := 5119) (by omega) (by omega)), if_neg (show ¬ (5120 : Int32) ≤ nI n from nI_ge (b := 5120) (by omega) (by omega))]
      exact ⟨_, _, g, gm, gS, p, rfl, rfl, ⟨op, rsl, md, nw, n, a1, a2, a3, a4, a5, a6, a7, a8, a9, a10, a11, rfl, rfl, by omega, a15, a16, a17⟩, ⟨rfl, rfl, rfl, rfl, rfl, rfl, rfl, rfl, rfl, rfl, rfl, rfl, rfl, rfl, rfl⟩, hdk, hp⟩
  have n84 : ¬ nI e = 84 := ne 84 (by omega) q84
  rw [if_neg n84, if_neg n84]; exact stay
theorem ras_b {N d k r cp T e n m sd nd : Nat} {p : Nat → Nat} {oi : ob_Interpreter} {oP : ob_Parser} {oR : ob_Raster} {or : ob_Ref} {od : ob_mDesk} {o : ob_Sheet} {os : ob_mSheet} {g gm gS gf gdt gs gmk gd : Nat → Int32} {b : Nat → Int64} (hN : 2 ^ 22 < N) (hd : isDpi d) (hk : k < 5) (hr : r < 4) (hT : T ≤ 2 ^ 26) (h : rsR d T oR or g gm) (he : e < 256) (hn : n ≤ 32767) (hdk : dkM k r cp p od gS) (hp : pOK k r p) (hsh : shR k r d o os gmk gd b sd nd) (hm : fd_Parser_dataCount oP = nI m) (hdt : dtR m gdt gs) :
    ∃ oR' or' g' gm' gf' o' gmk' gd' os' b' od', ex_Interpreter_doRow N oi oR (pgC d k r cp p) g oP gdt o gmk gd (nI e) (nI n) = some (oR', g', o', gmk', gd') ∧ ex_Ref_raster N or od gm gS os gf gs nd b 98 (nI e) (nI n) (nI m) = some (or', od', gm', gS, os', gf', b') ∧ rsR d (T + 1) oR' or' g' gm' ∧ rfF or or' ∧ shR k r d o' os' gmk' gd' b' sd nd ∧ shF o o' ∧ ((od' = od ∧ fd_Sheet_due o' = fd_Sheet_due o) ∨ (od' = dueO od ∧ fd_Sheet_due o' = 1)) := by
  have h' := h
  obtain ⟨op, rsl, md, nw, nh, a1, a2, a3, a4, a5, a6, a7, a8, a9, a10, a11, a12, a13, a14, a15, a16, a17⟩ := h'
  have hd3 : d ≤ 300 := by rcases hd with rfl | rfl | rfl <;> omega
  have hW := pgW_le (k := k) (r := r) hk
  have hH := pgH_le (k := k) (r := r) hk
  have hp0 := hp.1
  have hp1 := hp.2.1
  have g1 : gS 1 = nI (p 1) := hdk.2.2.2.2.2 1 (by omega)
  have py : fd_Page_y (pgC d k r cp p) = nI (p 1) := rfl
  have stay : ∃ oR' or' g' gm' gf' o' gmk' gd' os' b' od', some (oR, g, o, gmk, gd) = some (oR', g', o', gmk', gd') ∧ some (or, od, gm, gS, os, gf, b) = some (or', od', gm', gS, os', gf', b') ∧ rsR d (T + 1) oR' or' g' gm' ∧ rfF or or' ∧ shR k r d o' os' gmk' gd' b' sd nd ∧ shF o o' ∧ ((od' = od ∧ fd_Sheet_due o' = fd_Sheet_due o) ∨ (od' = dueO od ∧ fd_Sheet_due o' = 1)) := ⟨oR, or, g, gm, gf, o, gmk, gd, os, b, od, rfl, rfl, rsR_mono (by omega) h, rfF_refl or, hsh, ⟨rfl, rfl, rfl, rfl⟩, Or.inl ⟨rfl, rfl⟩⟩
  have ne : ∀ c : Nat, c < 256 → e ≠ c → ¬ nI e = nI c := fun c hc hq => mt (nI_eq (by omega) (by omega)).mp hq
  unfold ex_Interpreter_doRow ex_Ref_raster jn_Ref_raster_291o14
  rw [py, hm, if_neg (show ¬ (98 : Int32) = 116 by decide), if_neg (show ¬ (98 : Int32) = 114 by decide)]
  by_cases q77 : e = 77
  · subst q77
    rw [if_pos (show nI 77 = 77 from rfl), if_pos (show nI 77 = 77 from rfl)]
    unfold ex_Raster_setMethod
    rw [if_neg (nI_pos (by omega))]
    by_cases q : 4 ≤ n
    · rw [if_pos (show (3 : Int32) < nI n from nI_lt (a := 3) q (by omega)), if_pos (show (4 : Int32) ≤ nI n from nI_le (a := 4) q (by omega))]; exact stay
    · rw [if_neg (show ¬ (3 : Int32) < nI n from nI_nlt (a := 3) (by omega) (by omega)), if_neg (show ¬ (4 : Int32) ≤ nI n from nI_ge (b := 4) (by omega) (by omega))]
      exact ⟨_, _, g, gm, gf, o, gmk, gd, os, b, od, rfl, rfl, ⟨op, rsl, n, nw, nh, a1, a2, a3, a4, a5, rfl, rfl, by omega, a9, a10, a11, a12, a13, a14, a15, a16, (fun hq => (by
        have := rsR_mono (T' := T + 1) (by omega) h
        obtain ⟨op', rsl', md', nw', nh', b1, b2, b3, b4, b5, b6, b7, b8, b9, b10, b11, b12, b13, b14, b15, b16, b17⟩ := this
        refine b17 ?_
        cases op' with
        | true => rfl
        | false => rw [a1, hq] at b1; exact absurd b1 (by decide)))⟩, ⟨rfl, rfl, rfl, rfl, rfl, rfl, rfl, rfl, rfl, rfl, rfl, rfl, rfl, rfl, rfl⟩, hsh, ⟨rfl, rfl, rfl, rfl⟩, Or.inl ⟨rfl, rfl⟩⟩
  have n77 : ¬ nI e = 77 := ne 77 (by omega) q77
  rw [if_neg n77, if_neg n77]
  by_cases q89 : e = 89
  · subst q89
    rw [if_pos (show nI 89 = 89 from rfl), if_pos (show nI 89 = 89 from rfl), if_neg (show ¬ nI 89 = 87 by decide)]
    unfold ex_Raster_skipRows
    cases op with
    | false => rw [a1, a2, if_pos (show nI (false).toNat = 0 from rfl), if_pos (show nI (false).toNat = 0 from rfl)]; exact stay
    | true =>
      rw [a1, a2, if_neg (show ¬ nI (true).toNat = 0 by decide), if_neg (show ¬ nI (true).toNat = 0 by decide)]
      obtain ⟨hsd, X, Y, sc, rw_, W, H, p1, p2, p3, p4, p5, p6, p7, p8, p9, p10, p11, p12, p13, p14, p15, p16, p17, p18, p19, p20, p21, p22⟩ := a17 rfl
      obtain ⟨gz, z1, z2⟩ := rs_fill (N := N) (by omega) g
      obtain ⟨gz', z1', z2'⟩ := rm_zero2 (N := N) (by omega) gm
      obtain ⟨rr, hrr⟩ : ∃ rr, rr = max rw_ (min (if H = 0 then 30000 else H) (rw_ + n)) := ⟨_, rfl⟩
      have fin : ∃ oR' or' g' gm' gf' o' gmk' gd' os' b' od', some (fs_Raster_row oR (nI rr), gz, o, gmk, gd) = some (oR', g', o', gmk', gd') ∧ some (fs_Ref_row or (nI rr), od, gz', gS, os, gf, b) = some (or', od', gm', gS, os', gf', b') ∧ rsR d (T + 1) oR' or' g' gm' ∧ rfF or or' ∧ shR k r d o' os' gmk' gd' b' sd nd ∧ shF o o' ∧ ((od' = od ∧ fd_Sheet_due o' = fd_Sheet_due o) ∨ (od' = dueO od ∧ fd_Sheet_due o' = 1)) := by
        refine ⟨_, _, gz, gz', gf, o, gmk, gd, os, b, od, rfl, rfl, ⟨true, rsl, md, nw, nh, a1, a2, a3, a4, a5, a6, a7, a8, a9, a10, a11, a12, a13, a14, a15, a16, fun _ => ⟨sd_zero z2 z2', X, Y, sc, rr, W, H, p1, p2, p3, p4, p5, p6, rfl, rfl, p9, p10, p11, p12, p13, p14, p15, p16, p17, p18, ?_, p20, p21, ?_⟩⟩, ⟨rfl, rfl, rfl, rfl, rfl, rfl, rfl, rfl, rfl, rfl, rfl, rfl, rfl, rfl, rfl⟩, hsh, ⟨rfl, rfl, rfl, rfl⟩, Or.inl ⟨rfl, rfl⟩⟩
        · rw [hrr]; split <;> omega
        · intro hq; have := p22 hq; rw [hrr, if_neg hq]; omega
      rw [p7, p8, p11, p12, nI_add]
      simp only [z1, z1', Option.bind_some, dk_let, jn_Ref_raster_326h7]
      have cl : ∀ (lo : Nat), lo < 2 ^ 30 → (if nI rw_ < (if nI (rw_ + n) < nI lo then nI (rw_ + n) else nI lo) then (if nI (rw_ + n) < nI lo then nI (rw_ + n) else nI lo) else nI rw_) = nI (max rw_ (min lo (rw_ + n))) := by
        intro lo hlo
        have : (if nI (rw_ + n) < nI lo then nI (rw_ + n) else nI lo) = nI (min lo (rw_ + n)) := by
          by_cases q : rw_ + n < lo
          · rw [if_pos (nI_lt q (by omega)), Nat.min_eq_right (by omega)]
          · rw [if_neg (nI_nlt (by omega) (by omega)), Nat.min_eq_left (by omega)]
        rw [this]
        by_cases q : rw_ < min lo (rw_ + n)
        · rw [if_pos (nI_lt q (by omega)), Nat.max_eq_right (by omega)]
        · rw [if_neg (nI_nlt (by omega) (by omega)), Nat.max_eq_left (by omega)]
      by_cases qH : H = 0
      · rw [if_pos (show nI H = 0 by rw [qH]; rfl), if_pos (show nI H ≤ 0 by rw [qH]; decide)]
        have hc := cl 30000 (by omega)
        rw [if_pos qH] at hrr
        have hc' : (if nI rw_ < (if nI (rw_ + n) < 30000 then nI (rw_ + n) else 30000) then (if nI (rw_ + n) < 30000 then nI (rw_ + n) else 30000) else nI rw_) = nI rr := by rw [hrr]; exact hc
        rw [hc']
        by_cases q1 : rw_ ≤ 30000
        · rw [if_pos (show nI rw_ ≤ 30000 from nI_le (b := 30000) q1 (by omega))]
          by_cases q2 : rw_ + n ≤ 30000
          · rw [if_pos (show nI (rw_ + n) ≤ 30000 from nI_le (b := 30000) q2 (by omega))]
            have : rw_ + n = rr := by rw [hrr]; omega
            rw [this]; exact fin
          · rw [if_neg (show ¬ nI (rw_ + n) ≤ 30000 from nI_ge (a := 30000) (by omega) (by omega))]
            have : nI rr = 30000 := by rw [hrr, Nat.min_eq_left (by omega), Nat.max_eq_right (by omega)]; rfl
            rw [this] at fin ⊢; exact fin
        · rw [if_neg (show ¬ nI rw_ ≤ 30000 from nI_ge (a := 30000) (by omega) (by omega))]
          have hr_ : rw_ = rr := by rw [hrr]; omega
          by_cases q2 : n = 0
          · rw [if_pos (show nI (rw_ + n) ≤ nI rw_ from nI_le (by omega) (by omega))]
            have : rw_ + n = rr := by omega
            rw [this]; exact fin
          · rw [if_neg (show ¬ nI (rw_ + n) ≤ nI rw_ from nI_ge (by omega) (by omega))]
            have : fs_Ref_row or (nI rr) = or := by rw [← hr_, ← p8]
            rw [this] at fin; exact fin
      · rw [if_neg (show ¬ nI H = 0 from nI_ne0 (by omega) (by omega)), if_neg (show ¬ nI H ≤ 0 from nI_nle (by omega) (by omega))]
        have hc := cl H (by omega)
        rw [if_neg qH] at hrr
        rw [← hrr] at hc
        rw [hc]
        have := p22 qH
        by_cases q2 : rw_ + n ≤ H
        · rw [if_pos (nI_le q2 (by omega))]
          have : rw_ + n = rr := by rw [hrr]; omega
          rw [this]; exact fin
        · rw [if_neg (nI_ge (by omega) (by omega))]
          have : H = rr := by rw [hrr]; omega
          rw [← this] at fin ⊢; exact fin
  have n89 : ¬ nI e = 89 := ne 89 (by omega) q89
  rw [if_neg n89, if_neg n89]
  by_cases q87 : e = 87
  · subst q87
    rw [if_pos (show nI 87 = 87 from rfl), if_pos (show nI 87 = 87 from rfl)]
    obtain ⟨oR1, or1, g1_, gm1, e1, e2, e3, e4, e5⟩ := rs_open (N := N) (od := od) (by omega) hd3 h (show 0 ≤ 122400 by omega) (show p 1 ≤ 122400 by omega) g1
    have e1' : ex_Raster_openAt N oR g 0 (nI (p 1)) = some (oR1, g1_) := e1
    have e2' : ex_Ref_openRaster N or od gS gm 0 = some (or1, gm1) := e2
    rw [e1', e2']
    simp only [Option.bind_some]
    obtain ⟨op1, rsl1, md1, nw1, nh1, b1, b2, b3, b4, b5, b6, b7, b8, b9, b10, b11, b12, b13, b14, b15, b16, b17⟩ := e3
    have ht : op1 = true := by
      cases op1 with
      | true => rfl
      | false => rw [b1] at e4; exact absurd e4 (by decide)
    subst ht
    obtain ⟨hsd, X, Y, sc, rw_, W, H, hP⟩ := b17 rfl
    have hP' := hP
    obtain ⟨p1, p2, p3, p4, p5, p6, p7, p8, p9, p10, p11, p12, p13, p14, p15, p16, p17, p18, p19, p20, p21, p22⟩ := hP'
    by_cases hf : H = 0 ∨ rw_ < H
    · obtain ⟨g2, gm2, gf2, dt, f1, f2, f3, f4⟩ := rs_row (N := N) (nd := nd) (gf := gf) (od := od) (os := os) (b := b) hN hP hsd b6 b7 b8 hf hdt (by omega)
      have hend : ex_Raster_endRow N oR1 = some (fs_Raster_row oR1 (nI (rw_ + 1))) := by
        unfold ex_Raster_endRow ex_Raster_isFull
        rw [p11, p7]
        rcases hf with q | q
        · rw [if_pos (show nI H = 0 by rw [q]; rfl)]; simp only [Option.bind_some, if_true, nI_1]
        · rw [if_neg (show ¬ nI H = 0 from nI_ne0 (by omega) (by omega)), if_pos (nI_lt q (by omega))]; simp only [Option.bind_some, if_true, nI_1]
      have hrow : fd_Ref_row or1 + 1 = nI (rw_ + 1) := by rw [p8, nI_1]
      have hfr : rfF or (fs_Ref_row or1 (nI (rw_ + 1))) := rfF_trans e5 ⟨rfl, rfl, rfl, rfl, rfl, rfl, rfl, rfl, rfl, rfl, rfl, rfl, rfl, rfl, rfl⟩
      have hnew : rsR d (T + 1) (fs_Raster_row oR1 (nI (rw_ + 1))) (fs_Ref_row or1 (nI (rw_ + 1))) g2 gm2 := ⟨true, rsl1, md1, nw1, nh1, b1, b2, b3, b4, b5, b6, b7, b8, b9, b10, b11, b12, b13, b14, b15, b16, fun _ => ⟨f2, X, Y, sc, rw_ + 1, W, H, p1, p2, p3, p4, p5, p6, rfl, rfl, p9, p10, p11, p12, p13, p14, p15, p16, p17, p18, by omega, p20, p21, by omega⟩⟩
      have hg : (if fd_Ref_rasterHeight or1 = 0 then jn_Ref_raster_320p15 N od gS os gf gs nd b (nI m) (or1, gm1) else (if fd_Ref_rasterHeight or1 ≤ fd_Ref_row or1 then jn_Ref_raster_326h7 or1 od gm1 gS os gf b else jn_Ref_raster_320p15 N od gS os gf gs nd b (nI m) (or1, gm1))) = jn_Ref_raster_320p15 N od gS os gf gs nd b (nI m) (or1, gm1) := by
        rw [p12, p8]
        rcases hf with q | q
        · rw [if_pos (show nI H = 0 by rw [q]; rfl)]
        · rw [if_neg (show ¬ nI H = 0 from nI_ne0 (by omega) (by omega)), if_neg (nI_ge q (by omega))]
      rw [hg]
      unfold jn_Ref_raster_320p15
      simp only []
      rw [f1, f4]
      unfold rowT jn_Ref_raster_326h7
      simp only [Option.bind_some, hend, hrow, md_due]
      by_cases qd : dt = 0
      · rw [if_pos (show nI dt ≤ 0 by rw [qd]; decide), if_pos (show nI dt ≤ 0 by rw [qd]; decide)]
        exact ⟨_, _, g2, gm2, gf2, o, gmk, gd, os, b, od, rfl, rfl, hnew, hfr, hsh, ⟨rfl, rfl, rfl, rfl⟩, Or.inl ⟨rfl, rfl⟩⟩
      · have hdl : dt ≤ 8 * rbL W := by rw [f3]; exact lastB_le _ _
        have hL : rbL W ≤ 640 := by unfold rbL; split <;> omega
        have c : ¬ nI dt ≤ 0 := nI_nle (by omega) (by omega)
        rw [if_neg c, if_neg c]
        obtain ⟨o', gmk', gd', os', b', l1, l2, l3, l4, l5⟩ := ly_row (N := N) (op := pgC d k r cp p) (od := dueO od) (oR := oR1) (or := or1) (dt := dt) hN hk hr hd hsh rfl rfl rfl hdk.2.1 b16 p1 p3 p5 p7 p2 p4 p6 p8 p10 p15 p16 ⟨p17, p18⟩ (by omega) p20 rfl f2 f3 (by omega)
        rw [l1, l2]
        simp only [Option.bind_some]
        exact ⟨_, _, g2, gm2, gf2, o', gmk', gd', os', b', dueO od, rfl, rfl, hnew, hfr, l3, l5, Or.inr ⟨rfl, l4⟩⟩
    · have hfull : ex_Raster_isFull N oR1 = some 1 := by
        unfold ex_Raster_isFull
        rw [p11, p7, if_neg (show ¬ nI H = 0 from nI_ne0 (by omega) (by omega)), if_neg (nI_nlt (by omega) (by omega))]
      unfold ex_Raster_unpack ex_Raster_endRow jn_Ref_raster_326h7
      rw [hfull, p12, p8, if_neg (show ¬ nI H = 0 from nI_ne0 (by omega) (by omega)), if_pos (nI_le (show H ≤ rw_ by omega) (by omega))]
      simp only [Option.bind_some, show ¬ ((1 : Int32) = 0) by decide, if_false, show ((0 : Int32) ≤ 0) = True from eq_true (by decide), if_true]
      exact ⟨oR1, or1, g1_, gm1, gf, o, gmk, gd, os, b, od, rfl, rfl, rsR_mono (T := T) (by omega) ⟨true, rsl1, md1, nw1, nh1, b1, b2, b3, b4, b5, b6, b7, b8, b9, b10, b11, b12, b13, b14, b15, b16, b17⟩, e5, hsh, ⟨rfl, rfl, rfl, rfl⟩, Or.inl ⟨rfl, rfl⟩⟩
  have n87 : ¬ nI e = 87 := ne 87 (by omega) q87
  rw [if_neg n87, if_neg n87]; exact stay
theorem bo_or (b : Bool) : nI b.toNat = 0 ∨ nI b.toNat = 1 := by cases b; exact Or.inl rfl; exact Or.inr rfl
theorem sh_ink {N k r d sd nd e n rw_ rh pt : Nat} {oi : ob_Interpreter} {o : ob_Sheet} {os : ob_mSheet} {or : ob_Ref} {gmk gd : Nat → Int32} {b : Nat → Int64} (h : shR k r d o os gmk gd b sd nd) (hru : ruR o or rw_ rh pt) (he : e < 256) (hn : n ≤ 32767) :
    ∃ o' os', ex_Interpreter_doInk N oi o (nI e) (nI n) = some o' ∧ ex_Ref_ink N or os (nI e) (nI n) = some os' ∧ shR k r d o' os' gmk gd b sd nd ∧ shF o o' ∧ fd_Sheet_due o' = fd_Sheet_due o := by
  have h' := h
  obtain ⟨n_, u, ikd, inu, io, so, mk, c1, c2, c3, c4, c5, c6, hik, hmd⟩ := h'
  obtain ⟨i1, i2, i3, i4, i5, i6, i7, i8, i9, i10, i11, i12⟩ := hik
  obtain ⟨u1, u2, u3, u4, u5, u6, u7, u8, u9⟩ := hru
  have ne : ∀ c : Nat, c < 256 → e ≠ c → ¬ nI e = nI c := fun c hc hq => mt (nI_eq (by omega) (by omega)).mp hq
  have stay : ∃ o' os', some o = some o' ∧ some os = some os' ∧ shR k r d o' os' gmk gd b sd nd ∧ shF o o' ∧ fd_Sheet_due o' = fd_Sheet_due o := ⟨o, os, rfl, rfl, h, ⟨rfl, rfl, rfl, rfl⟩, rfl⟩
  unfold ex_Interpreter_doInk ex_Ref_ink ex_Sheet_setSourceOpaque ex_Sheet_setInkOpaque ex_Sheet_setInk
  by_cases q78 : e = 78
  · subst q78
    simp only [if_pos (show nI 78 = 78 from rfl), if_neg (show ¬ nI 78 = 84 by decide), if_neg (show ¬ nI 78 = 79 by decide)]
    by_cases q2 : 2 ≤ n
    · have a1 : ¬ nI n = 1 := mt (nI_eq (b := 1) (by omega) (by omega)).mp (by omega)
      have a0 : ¬ nI n = 0 := nI_ne0 (by omega) (by omega)
      rw [if_neg a1, if_neg a0, if_pos (show (2 : Int32) ≤ nI n from nI_le (a := 2) q2 (by omega)), i11]
      cases so with
      | false => rw [if_pos (show nI (false).toNat = 0 from rfl)]; exact ⟨_, _, rfl, rfl, ⟨n_, u, ikd, inu, io, false, mk, c1, c2, c3, c4, c5, c6, ⟨i1, i2, i3, i4, i5, i6, i7, i8, i9, i10, rfl, i12⟩, hmd⟩, ⟨rfl, rfl, rfl, rfl⟩, rfl⟩
      | true => rw [if_neg (show ¬ nI (true).toNat = 0 by decide)]; exact ⟨_, _, rfl, rfl, ⟨n_, u, ikd, inu, io, true, mk, c1, c2, c3, c4, c5, c6, ⟨i1, i2, i3, i4, i5, i6, i7, i8, i9, i10, rfl, i12⟩, hmd⟩, ⟨rfl, rfl, rfl, rfl⟩, rfl⟩
    · have : n = 0 ∨ n = 1 := by omega
      rcases this with rfl | rfl
      · rw [if_neg (show ¬ nI 0 = 1 by decide), if_neg (show ¬ (2 : Int32) ≤ nI 0 by decide), if_neg (show ¬ nI 0 = 1 by decide), if_pos (show nI 0 = 0 from rfl)]
        exact ⟨_, _, rfl, rfl, ⟨n_, u, ikd, inu, io, false, mk, c1, c2, c3, c4, c5, c6, ⟨i1, i2, i3, i4, i5, i6, i7, i8, i9, i10, rfl, rfl⟩, hmd⟩, ⟨rfl, rfl, rfl, rfl⟩, rfl⟩
      · rw [if_pos (show nI 1 = 1 from rfl), if_neg (show ¬ (2 : Int32) ≤ nI 1 by decide), if_pos (show nI 1 = 1 from rfl)]
        exact ⟨_, _, rfl, rfl, ⟨n_, u, ikd, inu, io, true, mk, c1, c2, c3, c4, c5, c6, ⟨i1, i2, i3, i4, i5, i6, i7, i8, i9, i10, rfl, rfl⟩, hmd⟩, ⟨rfl, rfl, rfl, rfl⟩, rfl⟩
  by_cases q79 : e = 79
  · subst q79
    simp only [if_pos (show nI 79 = 79 from rfl), if_neg (show ¬ nI 79 = 84 by decide), if_neg (show ¬ nI 79 = 78 by decide)]
    by_cases q2 : 2 ≤ n
    · have a1 : ¬ nI n = 1 := mt (nI_eq (b := 1) (by omega) (by omega)).mp (by omega)
      have a0 : ¬ nI n = 0 := nI_ne0 (by omega) (by omega)
      rw [if_neg a1, if_neg a0, if_pos (show (2 : Int32) ≤ nI n from nI_le (a := 2) q2 (by omega)), i9]
      cases io with
      | false => rw [if_pos (show nI (false).toNat = 0 from rfl)]; exact ⟨_, _, rfl, rfl, ⟨n_, u, ikd, inu, false, so, mk, c1, c2, c3, c4, c5, c6, ⟨i1, i2, i3, i4, i5, i6, i7, i8, rfl, i10, i11, i12⟩, hmd⟩, ⟨rfl, rfl, rfl, rfl⟩, rfl⟩
      | true => rw [if_neg (show ¬ nI (true).toNat = 0 by decide)]; exact ⟨_, _, rfl, rfl, ⟨n_, u, ikd, inu, true, so, mk, c1, c2, c3, c4, c5, c6, ⟨i1, i2, i3, i4, i5, i6, i7, i8, rfl, i10, i11, i12⟩, hmd⟩, ⟨rfl, rfl, rfl, rfl⟩, rfl⟩
    · have : n = 0 ∨ n = 1 := by omega
      rcases this with rfl | rfl
      · rw [if_neg (show ¬ nI 0 = 1 by decide), if_neg (show ¬ (2 : Int32) ≤ nI 0 by decide), if_neg (show ¬ nI 0 = 1 by decide), if_pos (show nI 0 = 0 from rfl)]
        exact ⟨_, _, rfl, rfl, ⟨n_, u, ikd, inu, false, so, mk, c1, c2, c3, c4, c5, c6, ⟨i1, i2, i3, i4, i5, i6, i7, i8, rfl, rfl, i11, i12⟩, hmd⟩, ⟨rfl, rfl, rfl, rfl⟩, rfl⟩
      · rw [if_pos (show nI 1 = 1 from rfl), if_neg (show ¬ (2 : Int32) ≤ nI 1 by decide), if_pos (show nI 1 = 1 from rfl)]
        exact ⟨_, _, rfl, rfl, ⟨n_, u, ikd, inu, true, so, mk, c1, c2, c3, c4, c5, c6, ⟨i1, i2, i3, i4, i5, i6, i7, i8, rfl, rfl, i11, i12⟩, hmd⟩, ⟨rfl, rfl, rfl, rfl⟩, rfl⟩
  have n78 : ¬ nI e = 78 := ne 78 (by omega) q78
  have n79 : ¬ nI e = 79 := ne 79 (by omega) q79
  by_cases q84 : e = 84
  · subst q84
    simp only [if_neg n78, if_neg n79]
    rw [if_pos (show nI 84 = 84 from rfl), if_pos (show nI 84 = 84 from rfl), u5, u6, sh_isInk hn u9]
    simp only [Option.bind_some]
    by_cases q2 : n < 2
    · have ht : isIk n pt = true := by unfold isIk; rw [decide_eq_true q2]; rfl
      rw [if_pos (show nI n < 2 from nI_lt (b := 2) q2 (by omega)), if_neg (show ¬ (2 : Int32) ≤ nI n from nI_ge (b := 2) q2 (by omega)), ht, if_neg (show ¬ nI (true).toNat = 0 by decide)]
      exact ⟨_, _, rfl, rfl, ⟨n_, u, n, 0, io, so, mk, c1, c2, c3, c4, c5, c6, ⟨rfl, rfl, by omega, fun hq => absurd hq (by omega), rfl, fun hq => absurd hq (by omega), fun hq => absurd hq (by omega), by omega, i9, i10, i11, i12⟩, hmd⟩, ⟨rfl, rfl, rfl, rfl⟩, rfl⟩
    · rw [if_neg (show ¬ nI n < 2 from nI_nlt (b := 2) (by omega) (by omega))]
      by_cases q4 : 4 ≤ n
      · have hf : isIk n pt = false := by unfold isIk; rw [decide_eq_false (show ¬ n < 2 by omega), decide_eq_false (show ¬ n = 2 by omega), decide_eq_false (show ¬ n = 3 by omega)]; rfl
        rw [if_pos (show (4 : Int32) ≤ nI n from nI_le (a := 4) q4 (by omega)), hf, if_pos (show nI (false).toNat = 0 from rfl)]
        exact stay
      · rw [if_neg (show ¬ (4 : Int32) ≤ nI n from nI_ge (b := 4) (by omega) (by omega)), rf_pat (by omega) u9]
        simp only [Option.bind_some]
        cases ht : isIk n pt with
        | false => rw [if_pos (show nI (false).toNat = 0 from rfl), if_pos (show nI (false).toNat = 0 from rfl)]; exact stay
        | true =>
          rw [if_neg (show ¬ nI (true).toNat = 0 by decide), if_neg (show ¬ nI (true).toNat = 0 by decide), if_pos (show (2 : Int32) ≤ nI n from nI_le (a := 2) (by omega) (by omega))]
          have hb : pt ≤ 100 ∧ 1 ≤ pt ∧ (n = 3 → 0 < pt ∧ pt < 7) := by
            unfold isIk at ht; rw [decide_eq_false q2] at ht; simp at ht; omega
          exact ⟨_, _, rfl, rfl, ⟨n_, u, n, pt, io, so, mk, c1, c2, c3, c4, c5, c6, ⟨rfl, rfl, by omega, fun _ => rfl, rfl, fun _ => by omega, hb.2.2, by omega, i9, i10, i11, i12⟩, hmd⟩, ⟨rfl, rfl, rfl, rfl⟩, rfl⟩
  have n84 : ¬ nI e = 84 := ne 84 (by omega) q84
  simp only [if_neg n78, if_neg n79, if_neg n84]; exact stay
theorem linesB_le (w : Nat) : ∀ (ls : List (Nat → Bool)) (up : Nat → Bool) (B : List Bool), B.length ≤ (linesB w ls up B).length := by
  intro ls
  induction ls with
  | nil => intro up B; exact Nat.le_refl _
  | cons l ls ih =>
    intro up B
    rw [linesB]
    refine Nat.le_trans ?_ (ih _ _)
    rw [List.length_append]; omega
theorem cLn_more {w s P : Nat} {up up2 : Nat → Bool} {B B2 : List Bool} {o : ob_Coder} {ga ga2 g g0 : Nat → Int32} (hf : ¬ fd_Coder_full o = 0) (h : cLn w s P up B o ga g g0) (hB : B.length ≤ B2.length) : cLn w s P up2 B2 o ga2 g g0 := by
  obtain ⟨h1, h2, h3, h4⟩ := h
  refine ⟨h1, h2, h3, Or.inr ?_⟩
  rcases h4 with h4 | h4
  · exact absurd h4.1 hf
  · refine ⟨h4.1, ?_⟩
    rcases h4.2 with q | q
    · left
      have : B.length / 8 ≤ B2.length / 8 := Nat.div_le_div_right hB
      omega
    · exact Or.inr q
theorem lp48_same {N nb : Nat} {om : ob_Main} {op : ob_Page} {of : ob_OutFile} {gm gd : Nat → Int32} {u : rs_Page_high} : ∀ (f : Nat) (y : Int32) (o : ob_Sheet) (b : Nat → Int64) (ga gl : Nat → Int32) (oc : ob_Coder) (g : Nat → Int32), lp_Main_printSheet_48d3 N om op of gm gd nb u f y o b ga gl oc g = lp_Main_printSheet_48 N om op of gm gd nb u f y o b ga gl oc g := by
  intro f
  induction f with
  | zero => intros; rfl
  | succ f ih =>
    intro y o b ga gl oc g
    rw [lp_Main_printSheet_48d3, lp_Main_printSheet_48]
    unfold ex_Main_printBand
    simp only [ih]
/-- the bands of a page -/
theorem pr_bands {N n w hg s P nb BL : Nat} {om : ob_Main} {of : ob_OutFile} {op : ob_Page} {gmk gd g0 : Nat → Int32} {mk : Nat → mkT} (hN : 2 ^ 22 < N) (hn : n ≤ 4096) (hM : mksR gmk n mk) (hw : w ≤ 10000) (hop : ex_Page_wide N op = some (nI w)) (hh : hg ≤ 20000) (hs : s < 100000) (hnb : nb < 2 ^ 22) (hB1 : 1 ≤ BL) (hB2 : BL ≤ 20000) (hroom : BL * ((w + 63) / 64) ≤ nb) :
    ∀ (m fu y : Nat) (o : ob_Sheet) (b : Nat → Int64) (up : Nat → Bool) (B : List Bool) (oc : ob_Coder) (ga gl g : Nat → Int32), hg - y ≤ m → m < fu → y ≤ 40000 → fd_Sheet_count o = nI n → fd_Sheet_bandLines o = nI BL → cLn w s P up B oc ga g g0 →
      ∃ v b2 oc2 ga2 gl2 g2, lp_Main_printSheet_48 N om op of gmk gd nb (nI hg) fu (nI y) o b ga gl oc g = some (fs_Sheet_bandWords o v, b2, ga2, gl2, oc2, g2) ∧ cLn w s P (lastU (rows (pntD gmk gd mk n) y (hg - y)) up) (linesB w (rows (pntD gmk gd mk n) y (hg - y)) up B) oc2 ga2 g2 g0 := by
  intro m
  induction m with
  | zero =>
    intro fu y o b up B oc ga gl g hm hf hy hc hb hcl
    obtain ⟨fu, rfl⟩ : ∃ z, fu = z + 1 := ⟨fu - 1, by omega⟩
    have : hg - y = 0 := by omega
    rw [lp_Main_printSheet_48, if_pos (nI_le (show hg ≤ y by omega) (by omega)), this]
    exact ⟨fd_Sheet_bandWords o, b, oc, ga, gl, g, rfl, hcl⟩
  | succ m ih =>
    intro fu y o b up B oc ga gl g hm hf hy hc hb hcl
    obtain ⟨fu, rfl⟩ : ∃ z, fu = z + 1 := ⟨fu - 1, by omega⟩
    rw [lp_Main_printSheet_48]
    by_cases q : hg ≤ y
    · have : hg - y = 0 := by omega
      rw [if_pos (nI_le q (by omega)), this]
      exact ⟨fd_Sheet_bandWords o, b, oc, ga, gl, g, rfl, hcl⟩
    rw [if_neg (nI_ge (by omega) (by omega))]
    by_cases hf0 : fd_Coder_full oc = 0
    · rw [if_pos hf0, hb]
      obtain ⟨l, hl⟩ : ∃ l, l = min (hg - y) BL := ⟨_, rfl⟩
      have el : (if nI hg - nI y < nI BL then nI hg - nI y else nI BL) = nI l := by
        rw [nI_sub (by omega)]
        by_cases q2 : hg - y < BL
        · rw [if_pos (nI_lt q2 (by omega)), hl, Nat.min_eq_left (by omega)]
        · rw [if_neg (nI_nlt (by omega) (by omega)), hl, Nat.min_eq_right (by omega)]
      simp only [dk_let, el]
      have hroom2 : l * ((w + 63) / 64) ≤ nb := Nat.le_trans (Nat.mul_le_mul_right _ (by omega)) hroom
      obtain ⟨tf, b1, e1, e2⟩ := pb_band (N := N) (o := o) (op := op) (g := gmk) (gd := gd) (mk := mk) (b := b) (first := y) (lines := l) (by omega) (by omega) (by omega) hn hc hM (by omega) hw hop hroom2 (by omega)
      obtain ⟨oc1, ga1, gl1, g1, f1, f2⟩ := sm_lband (N := N) (w := w) (s := s) (P := P) (nb := nb) (first := y) (bwd := (w + 63) / 64) (of := of) (g0 := g0) (D := pntD gmk gd mk n) (lines := l) (u := (fs_Sheet_bandWords o (nI ((w + 63) / 64)), b1, nI (Bool.toNat tf))) (by omega) hw hs (by omega) rfl (Nat.le_refl _) hroom2 (by omega) (fun hz l' x hl' hx => e2.1 (by cases tf; rfl; exact absurd hz (show ¬ nI (true).toNat = 0 by decide)) l' x hl' hx) (fun hz l' x hl' hx => e2.2 (by cases tf; exact absurd rfl hz; rfl) l' x hl' hx) l N 0 up B oc ga gl g rfl (by omega) (by omega) hcl
      unfold ex_Main_printBand
      rw [e1]
      simp only [Option.bind_some]
      have f1' : lp_Main_printBand_13 N nb of (nI l) (fs_Sheet_bandWords o (nI ((w + 63) / 64)), b1, nI (Bool.toNat tf)) N 0 oc ga gl g = some (oc1, ga1, gl1, g1) := f1
      rw [f1']
      simp only [Option.bind_some]
      have hb' : fd_Sheet_bandLines (fs_Sheet_bandWords o (nI ((w + 63) / 64))) = nI BL := hb
      rw [hb', nI_add]
      obtain ⟨v, b2, oc2, ga2, gl2, g2, r1, r2⟩ := ih fu (y + BL) (fs_Sheet_bandWords o (nI ((w + 63) / 64))) b1 _ _ oc1 ga1 gl1 g1 (by omega) (by omega) (by omega) hc hb f2
      refine ⟨v, b2, oc2, ga2, gl2, g2, r1, ?_⟩
      have hsplit : rows (pntD gmk gd mk n) y (hg - y) = rows (pntD gmk gd mk n) (y + 0) l ++ rows (pntD gmk gd mk n) (y + BL) (hg - (y + BL)) := by
        by_cases q2 : hg - y ≤ BL
        · have a1 : l = hg - y := by omega
          have a2 : hg - (y + BL) = 0 := by omega
          rw [a1, a2]; show _ = _ ++ []; rw [List.append_nil]; rfl
        · have a1 : l = BL := by omega
          have a2 : hg - y = BL + (hg - (y + BL)) := by omega
          rw [a1, a2, rows_app]; rfl
      rw [hsplit, lastU_app, linesB_app]
      exact r2
    · rw [if_neg hf0]
      exact ⟨fd_Sheet_bandWords o, b, oc, ga, gl, g, rfl, cLn_more hf0 hcl (linesB_le _ _ _ _)⟩
/-- the files that both sides write -/
def flO (P K S : Nat) (oP : ob_mPictures) : Prop := ∃ (th a1 a2 a3 a4 a5 a6 a7 a8 a9 : Int32) (r : Int32 × Int32 × Int32 × Int32 × Int32 × Int32), oP = (th, nI S, 1, 0, 73, nI P, nI K, a1, a2, a3, a4, a5, a6, a7, a8, a9, r)
/-- the bytes of a page are the code of its lines -/
def cdd (w n : Nat) (ls : List (Nat → Bool)) (f : Nat → Int32) : Prop := n = (endB (linesB w ls (fun _ => false) [])).length / 8 ∧ ∀ i, i < n → f i = byI (bvf (gb (endB (linesB w ls (fun _ => false) []))) (8 * i) 8)
theorem cdd_congr {w n : Nat} {ls : List (Nat → Bool)} {f f' : Nat → Int32} (h : cdd w n ls f) (e : ∀ i, i < n → f' i = f i) : cdd w n ls f' := ⟨h.1, fun i hi => (e i hi).trans (h.2 i hi)⟩
/-- the pages of a file can be read -/
def pgOK (P K : Nat) (t g : Nat → Int32) : Prop := ∀ p, p < P → ∃ (w h pl n : Nat) (ls : List (Nat → Bool)), 1 ≤ w ∧ w ≤ 10000 ∧ 1 ≤ h ∧ h ≤ 20000 ∧ ls.length = h ∧ t (4 * p) = nI w ∧ t (4 * p + 1) = nI h ∧ t (4 * p + 2) = nI pl ∧ t (4 * p + 3) = nI n ∧ pl + n ≤ K ∧ pl + n ≤ 60000 ∧ cdd w n ls (fun i => g (pl + i))
def flR (P K S : Nat) (of : ob_OutFile) (t g : Nat → Int32) (oP : ob_mPictures) (f pg : Nat → Int32) : Prop := of = (nI S, nI P, nI K) ∧ P ≤ 40 ∧ K + 4 ≤ S ∧ S ≤ 60160 ∧ flO P K S oP ∧ agree S g f ∧ agree (4 * P) t pg ∧ pgOK P K pg f
theorem tail_agree {e K : Nat} {F G T : Nat → Int32} {xs l4 z4 : List Int32} (h : agree e F G) (hx : xs.length = e % 2 + 138) (hl : l4.length = 4) (hz : z4.length = 4) (hK : K + 4 ≤ e) : agree (e + e % 2 + 142) (bw (bw (bw F e xs) K l4) (e + e % 2 + 138) z4) (bw (bw (bw G e xs) K l4) (e + e % 2 + 138) z4) := by
  have h1 := agree_bw h e xs (Nat.le_refl _)
  have h2 := agree_bw h1 K l4 (by omega)
  have h3 := agree_bw h2 (e + e % 2 + 138) z4 (by omega)
  exact h3.mono (by omega)
theorem tab_agree {P : Nat} {t pg : Nat → Int32} (a b c d : Int32) (h : agree (4 * P) t pg) : agree (4 * (P + 1)) (upd (upd (upd (upd t (4 * P + 0) a) (4 * P + 1) b) (4 * P + 2) c) (4 * P + 3) d) (upd (upd (upd (upd pg (4 * P) a) (4 * P + 1) b) (4 * P + 2) c) (4 * P + 3) d) := by
  have h1 := agree_push h a
  have h2 := agree_push h1 b
  have h3 := agree_push h2 c
  have h4 := agree_push h3 d
  exact h4
theorem pg_next {P K S s n w h x y : Nat} {G pg f : Nat → Int32} {ls : List (Nat → Bool)} (hK : K + 4 ≤ S) (hs : s = S + S % 2) (hsn : s + n ≤ 60000) (hw : 1 ≤ w ∧ w ≤ 10000) (hh : 1 ≤ h ∧ h ≤ 20000) (hls : ls.length = h) (hold : pgOK P K pg f) (hGf : ∀ i, i < S → G i = f i) (hcd : cdd w n ls (fun i => G (s + i))) :
    pgOK (P + 1) (s + n + (s + n) % 2 + 138) (upd (upd (upd (upd pg (4 * P) (nI w)) (4 * P + 1) (nI h)) (4 * P + 2) (nI s)) (4 * P + 3) (nI n)) (bw (bw (bw G (s + n) (pageTail (nI w) (nI h) (nI s) (nI n) (nI x) (nI y) (s + n))) K (le (nI (s + n + (s + n) % 2 + 16)) 4)) (s + n + (s + n) % 2 + 138) (le 0 4)) := by
  intro p hp
  by_cases q : p = P
  · subst q
    refine ⟨w, h, s, n, ls, hw.1, hw.2, hh.1, hh.2, hls, ?_, ?_, ?_, ?_, by omega, hsn, cdd_congr hcd (fun i hi => ?_)⟩
    · unfold upd; simp
    · unfold upd; simp
    · unfold upd; simp
    · unfold upd; simp
    · show bw (bw (bw G _ _) _ _) _ _ (s + i) = G (s + i)
      rw [bw_low _ _ _ _ (by omega), bw_get, if_neg (by rw [le_length]; omega), bw_low _ _ _ _ (by omega)]
  · obtain ⟨w', h', pl, n', ls', a1, a2, a3, a4, a5, a6, a7, a8, a9, a10, a11, a12⟩ := hold p (by omega)
    have e : ∀ c, c < 4 → upd (upd (upd (upd pg (4 * P) (nI w)) (4 * P + 1) (nI h)) (4 * P + 2) (nI s)) (4 * P + 3) (nI n) (4 * p + c) = pg (4 * p + c) := by
      intro c hc
      unfold upd
      rw [if_neg (by omega), if_neg (by omega), if_neg (by omega), if_neg (by omega)]
    refine ⟨w', h', pl, n', ls', a1, a2, a3, a4, a5, (e 0 (by omega)).trans a6, (e 1 (by omega)).trans a7, (e 2 (by omega)).trans a8, (e 3 (by omega)).trans a9, by omega, a11, cdd_congr a12 (fun i hi => ?_)⟩
    show bw (bw (bw G _ _) _ _) _ _ (pl + i) = f (pl + i)
    rw [bw_low _ _ _ _ (by omega), bw_low _ _ _ _ (by omega), bw_low _ _ _ _ (by omega)]
    exact hGf _ (by omega)
theorem fl_next {P K S s n w h x y : Nat} {th : Int32} {r : Int32 × Int32 × Int32 × Int32 × Int32 × Int32} {F G t pg : Nat → Int32} (hP : P < 40) (hK : K + 4 ≤ S) (hs : s = S + S % 2) (hsn : s + n ≤ 60000) (hF : agree (s + n) F G) (ht : agree (4 * P) t pg) {f : Nat → Int32} {ls : List (Nat → Bool)} (hw : 1 ≤ w ∧ w ≤ 10000) (hh : 1 ≤ h ∧ h ≤ 20000) (hls : ls.length = h) (hold : pgOK P K pg f) (hGf : ∀ i, i < S → G i = f i) (hcd : cdd w n ls (fun i => G (s + i))) :
    flR (P + 1) (s + n + (s + n) % 2 + 138) (s + n + (s + n) % 2 + 142) (nI (s + n + (s + n) % 2 + 142), nI (P + 1), nI (s + n + (s + n) % 2 + 138)) (upd (upd (upd (upd t (4 * P + 0) (nI w)) (4 * P + 1) (nI h)) (4 * P + 2) (nI s)) (4 * P + 3) (nI n)) (bw (bw (bw F (s + n) (pageTail (nI w) (nI h) (nI s) (nI n) (nI x) (nI y) (s + n))) K (le (nI (s + n + (s + n) % 2 + 16)) 4)) (s + n + (s + n) % 2 + 138) (le 0 4))
      (th, nI (s + n + (s + n) % 2 + 142), 1, 0, 73, nI (P + 1), nI (s + n + (s + n) % 2 + 138), nI w, nI h, nI h, nI x, nI y, 1, 1, nI s, 0, r) (bw (bw (bw G (s + n) (pageTail (nI w) (nI h) (nI s) (nI n) (nI x) (nI y) (s + n))) K (le (nI (s + n + (s + n) % 2 + 16)) 4)) (s + n + (s + n) % 2 + 138) (le 0 4)) (upd (upd (upd (upd pg (4 * P) (nI w)) (4 * P + 1) (nI h)) (4 * P + 2) (nI s)) (4 * P + 3) (nI n)) :=
  ⟨rfl, by omega, by omega, by omega, ⟨_, _, _, _, _, _, _, _, _, _, _, rfl⟩, tail_agree (T := F) hF (pageTail_length _ _ _ _ _ _ _) (le_length _ _) (le_length _ _) (by omega), tab_agree _ _ _ _ ht, pg_next hK hs hsn hw hh hls hold hGf hcd⟩
/-- the last page as the class told it -/
def lstR (P w h pl n : Nat) (t g out : Nat → Int32) : Prop := t (4 * P) = nI w ∧ t (4 * P + 1) = nI h ∧ t (4 * P + 2) = nI pl ∧ t (4 * P + 3) = nI n ∧ pl + n ≤ 60000 ∧ (∀ i, i < n → g (pl + i) = out i)
theorem lst_next {P K s n w h x y : Nat} {F t out : Nat → Int32} (hK : K + 4 ≤ s) (hsn : s + n ≤ 60000) (hF : ∀ i, i < n → F (s + i) = out i) :
    lstR P w h s n (upd (upd (upd (upd t (4 * P + 0) (nI w)) (4 * P + 1) (nI h)) (4 * P + 2) (nI s)) (4 * P + 3) (nI n)) (bw (bw (bw F (s + n) (pageTail (nI w) (nI h) (nI s) (nI n) (nI x) (nI y) (s + n))) K (le (nI (s + n + (s + n) % 2 + 16)) 4)) (s + n + (s + n) % 2 + 138) (le 0 4)) out := by
  refine ⟨?_, ?_, ?_, ?_, hsn, fun i hi => ?_⟩
  · unfold upd; simp
  · unfold upd; simp
  · unfold upd; simp
  · unfold upd; simp
  · rw [bw_low _ _ _ _ (by omega), bw_get, if_neg (by rw [le_length]; omega), bw_low _ _ _ _ (by omega)]
    exact hF i hi
/-- a further page doesn't fit -/
theorem m_addF {N P K S n no : Nat} {oR : ob_Ref} {oP : ob_mPictures} {ol : ob_mLines} {out f pg pl ls : Nat → Int32} {w h x y : Int32} (hO : flO P K S oP) (hP : P ≤ 40) (hS : S ≤ 60160) (hn : n < 2 ^ 60) (hbad : ¬ (P < 40 ∧ S + S % 2 + n ≤ 60000)) :
    ex_Ref_add N oR oP ol no out f pg pl ls w h x y (lN n) = some (fs_Ref_fault oR 20, oP, f, pg, pl, ls) := by
  obtain ⟨th, a1, a2, a3, a4, a5, a6, a7, a8, a9, r, rfl⟩ := hO
  unfold ex_Ref_add
  by_cases q : P = 40
  · rw [if_pos (show nI P = 40 by rw [q]; rfl)]
  · rw [if_neg (show ¬ nI P = 40 from mt (nI_eq (b := 40) (by omega) (by omega)).mp q)]
    have e : nI S - nI S / 2 * 2 = nI (S % 2) := nI_mod (b := 2) (by omega) (by omega)
    have hc : lg_cmp ((nI (S + S % 2)).toInt64 + lN n) 60000 ≤ 0 ↔ ((S + S % 2 : Nat) : Int) + (n : Int) ≤ 60000 := by
      rw [nI_lI (by omega)]
      show lg_cmp (lI _ + lI (n : Int)) (lI 60000) ≤ 0 ↔ _
      rw [lI_add]; exact lcmp_le (by omega) (by omega)
    simp only [dk_let]
    rw [e, nI_add, if_neg (mt hc.mp (by omega))]
theorem bind_eq {α β : Type} {x : Option α} {a : α} {f : α → Option β} (h : x = some a) : x.bind f = f a := by rw [h]; rfl
theorem rep_ok {N P K S s n w h d pl no : Nat} {t g out f : Nat → Int32} (hN : 4 < N) (hP : P + 1 < 40) (hK : K + 4 ≤ S) (f4 : S ≤ 60160) (hs : s = S + S % 2) (hok : S + S % 2 + n ≤ 60000) (hps : pl + n ≤ S) (f6 : agree S g f) (hlst : lstR P w h pl n t g out) (hno : 60000 ≤ no) (hB : ∀ i, i < no → isB (out i)) :
    ∃ F, agree (s + n) F (bw (bw f S (le 0 (S % 2))) s (seg out 0 n)) ∧ (∀ i, i < n → F (s + i) = out i) ∧ ex_OutFile_repeatPage N (nI S, nI (P + 1), nI K) t g (nI d) = some ((nI (s + n + (s + n) % 2 + 142), nI (P + 1 + 1), nI (s + n + (s + n) % 2 + 138)), (upd (upd (upd (upd t (4 * (P + 1) + 0) (nI w)) (4 * (P + 1) + 1) (nI h)) (4 * (P + 1) + 2) (nI s)) (4 * (P + 1) + 3) (nI n)), (bw (bw (bw F (s + n) (pageTail (nI w) (nI h) (nI s) (nI n) (nI d) (nI d) (s + n))) K (le (nI (s + n + (s + n) % 2 + 16)) 4)) (s + n + (s + n) % 2 + 138) (le 0 4)), 1) := by
  obtain ⟨l0, l1, l2, l3, l4, l5⟩ := hlst
  have et : ∀ c, c < 4 → ∀ o', ex_OutFile_told N o' t (nI P) (nI c) = some (t (4 * P + c)) := fun c hc o' => file_told c hc (by omega)
  have eP : fd_OutFile_pages ((nI S, nI (P + 1), nI K) : ob_OutFile) - 1 = nI P := (nI_sub (a := P + 1) (b := 1) (by omega)).trans (by congr 1)
  have t0 : ∀ o', ex_OutFile_told N o' t (nI P) 0 = some (nI w) := fun o' => (et 0 (by omega) o').trans (by rw [← l0]; rfl)
  have t1 : ∀ o', ex_OutFile_told N o' t (nI P) 1 = some (nI h) := fun o' => (et 1 (by omega) o').trans (by rw [← l1])
  have t2 : ∀ o', ex_OutFile_told N o' t (nI P) 2 = some (nI pl) := fun o' => (et 2 (by omega) o').trans (by rw [← l2])
  have t3 : ∀ o', ex_OutFile_told N o' t (nI P) 3 = some (nI n) := fun o' => (et 3 (by omega) o').trans (by rw [← l3])
  have hev := file_even (N := N) (q := (nI (P + 1), nI K)) f4
  obtain ⟨G, hG⟩ : ∃ G, G = bw g S (le 0 (S % 2)) := ⟨_, rfl⟩
  have hGg : ∀ i, i < n → G (pl + i) = out i := fun i hi => by rw [hG, bw_low _ _ _ _ (by omega)]; exact l5 i hi
  refine ⟨va_cpy G G pl s n, ?_, ?_, ?_⟩
  · intro i hi
    unfold va_cpy
    rw [bw_get, seg_length]
    by_cases q : s ≤ i ∧ i < s + n
    · rw [if_pos q, if_pos (by omega), hGg _ (by omega)]
      unfold seg
      rw [List.getD_eq_getElem?_getD, List.getElem?_map, List.getElem?_range (by omega)]
      show out (i - s) = out (0 + (i - s))
      congr 1; omega
    · rw [if_neg q, if_neg (by omega), hG]
      have := agree_bw f6 S (le 0 (S % 2)) (Nat.le_refl _)
      rw [le_length] at this
      exact this i (by omega)
  · intro i hi
    unfold va_cpy
    rw [if_pos (by omega)]
    rw [← hGg i hi]; congr 1; omega
  · unfold ex_OutFile_repeatPage
    rw [eP]
    refine (bind_eq (t2 _)).trans ((bind_eq (t3 _)).trans ((bind_eq hev).trans ?_))
    rw [if_neg (show ¬ nI P < 0 from nI_pos (by omega)), if_neg (show ¬ (40 : Int32) ≤ nI (P + 1) from nI_ge (b := 40) (by omega) (by omega)), nI_add, if_pos (show nI (S + S % 2 + n) ≤ 60000 from nI_le (b := 60000) (by omega) (by omega)), file_pad (by omega) (by omega), ← hG, ← hs]
    simp only [Option.bind_some]
    have hcpy : dk_cp (nI pl) (nI s) (nI n) 60160 60160 = True := dk_cpT (by omega) (by omega) (by omega) (by omega)
    have hft : dk_fit .byte G pl n := fun i hi => by rw [hGg i hi]; have h8 := is8_to (out i); rw [hB i (by omega)] at h8; exact h8
    rw [if_pos (of_eq_true hcpy), nI_clamp (by omega), nI_clamp (by omega), nI_clamp (by omega), if_pos hft]
    simp only [dk_let, t0, t1, Option.bind_some]
    have hpg := file_page (N := N) (P := P + 1) (K := K) (pl := s) (ln := n) (L := nI s) (t := t) (g := va_cpy G G pl s n) (nI w) (nI h) (nI d) (nI d) (by omega) (by omega) (by omega) (by omega)
    rw [hpg]; rfl
theorem rep_no {N P K S n w h d pl : Nat} {t g out : Nat → Int32} (hP : P + 1 ≤ 40) (f4 : S ≤ 60160) (ok : ¬ (P + 1 < 40 ∧ S + S % 2 + n ≤ 60000)) (hlst : lstR P w h pl n t g out) : ex_OutFile_repeatPage N (nI S, nI (P + 1), nI K) t g (nI d) = some ((nI S, nI (P + 1), nI K), t, g, 0) := by
  obtain ⟨l0, l1, l2, l3, l4, l5⟩ := hlst
  have et : ∀ c, c < 4 → ∀ o', ex_OutFile_told N o' t (nI P) (nI c) = some (t (4 * P + c)) := fun c hc o' => file_told c hc (by omega)
  have eP : fd_OutFile_pages ((nI S, nI (P + 1), nI K) : ob_OutFile) - 1 = nI P := (nI_sub (a := P + 1) (b := 1) (by omega)).trans (by congr 1)
  have t0 : ∀ o', ex_OutFile_told N o' t (nI P) 0 = some (nI w) := fun o' => (et 0 (by omega) o').trans (by rw [← l0]; rfl)
  have t1 : ∀ o', ex_OutFile_told N o' t (nI P) 1 = some (nI h) := fun o' => (et 1 (by omega) o').trans (by rw [← l1])
  have t2 : ∀ o', ex_OutFile_told N o' t (nI P) 2 = some (nI pl) := fun o' => (et 2 (by omega) o').trans (by rw [← l2])
  have t3 : ∀ o', ex_OutFile_told N o' t (nI P) 3 = some (nI n) := fun o' => (et 3 (by omega) o').trans (by rw [← l3])
  have hev := file_even (N := N) (q := (nI (P + 1), nI K)) f4
  unfold ex_OutFile_repeatPage
  rw [eP]
  refine (bind_eq (t2 _)).trans ((bind_eq (t3 _)).trans ((bind_eq hev).trans ?_))
  rw [if_neg (show ¬ nI P < 0 from nI_pos (by omega))]
  by_cases q : P + 1 = 40
  · rw [if_pos (show (40 : Int32) ≤ nI (P + 1) from nI_le (a := 40) (by omega) (by omega))]
  · have hb : n ≤ 60000 := by omega
    rw [if_neg (show ¬ (40 : Int32) ≤ nI (P + 1) from nI_ge (b := 40) (by omega) (by omega)), nI_add, if_neg (show ¬ nI (S + S % 2 + n) ≤ 60000 from nI_ge (a := 60000) (by omega) (by omega))]
/-- the copies of a page on both sides -/
theorem pr_copies {N cp w h d n no : Nat} {ls : List (Nat → Bool)} (hls : ls.length = h) (hw10 : w ≤ 10000) {om : ob_Main} {op : ob_Page} {ol : ob_mLines} {out gp : Nat → Int32} {y1 : Int32} {u82 : rs_mSheet_blank} (hN : 2 ^ 22 < N) (hdp : fd_Main_dpi om = nI d) (hcp : fd_Page_copies op = nI cp) (hcp2 : cp ≤ 32767) (hgp : gp ((4 * y1) + 3).toNatClampNeg = nI cp) (hd1 : 1 ≤ d) (hd2 : d ≤ 300) (hw1 : 1 ≤ w) (hw2 : w ≤ 20000) (hh1 : 1 ≤ h) (hh2 : h ≤ 20000) (hu1 : fd_mSheet_wide u82.1 = nI w) (hu2 : fd_mSheet_high u82.1 = nI h) (hno : 60000 ≤ no) (hno2 : no < 2 ^ 31) (hn1 : 1 ≤ n) (hnb : n < 2 ^ 60) (hB : ∀ i, i < no → isB (out i)) (hcd : cdd w n ls out) :
    ∀ (m fu fu2 j P K S pl : Nat) (oR : ob_Ref) (of : ob_OutFile) (t g : Nat → Int32) (oP : ob_mPictures) (f pg pc lc : Nat → Int32), cp - j = m → m < fu → m < fu2 → j ≤ 32767 → fd_Ref_dpi oR = nI d → fd_Ref_fault oR = 0 → flR (P + 1) K S of t g oP f pg → lstR P w h pl n t g out → pl + n ≤ S →
      ∃ ok : Bool, ∃ P' K' S' of' t' g' oP' f' pg' pc' lc', lp_Main_printSheet_120c2 N om op fu (nI j) 1 of g t = some (nI ok.toNat, of', g', t') ∧ lp_Ref_print_150f5 N gp no y1 (ol, out, lN n) u82 fu2 (nI j) oR oP pg f pc lc = some ((if ok then oR else fs_Ref_fault oR 20), oP', pg', f', pc', lc') ∧ flR P' K' S' of' t' g' oP' f' pg' := by
  intro m
  induction m with
  | zero =>
    intro fu fu2 j P K S pl oR of t g oP f pg pc lc hm hf hf2 hj hod hof hfl hlst hps
    obtain ⟨fu, rfl⟩ : ∃ z, fu = z + 1 := ⟨fu - 1, by omega⟩
    obtain ⟨fu2, rfl⟩ : ∃ z, fu2 = z + 1 := ⟨fu2 - 1, by omega⟩
    refine ⟨true, P + 1, K, S, of, t, g, oP, f, pg, pc, lc, ?_, ?_, hfl⟩
    · rw [lp_Main_printSheet_120c2, hcp, if_pos (nI_le (show cp ≤ j by omega) (by omega))]; rfl
    · rw [lp_Ref_print_150f5, hgp, if_pos (nI_le (show cp ≤ j by omega) (by omega))]; rfl
  | succ m ih =>
    intro fu fu2 j P K S pl oR of t g oP f pg pc lc hm hf hf2 hj hod hof hfl hlst hps
    obtain ⟨fu, rfl⟩ : ∃ z, fu = z + 1 := ⟨fu - 1, by omega⟩
    obtain ⟨fu2, rfl⟩ : ∃ z, fu2 = z + 1 := ⟨fu2 - 1, by omega⟩
    have hfl' := hfl
    obtain ⟨f1, f2, f3, f4, f5, f6, f7, f8⟩ := hfl'
    subst f1
    rw [lp_Main_printSheet_120c2, lp_Ref_print_150f5, hcp, hgp, if_neg (nI_ge (show j < cp by omega) (by omega)), if_neg (nI_ge (show j < cp by omega) (by omega)), if_neg (show ¬ (1 : Int32) = 0 by decide), if_pos hof, hdp, hod, hu1, hu2]
    obtain ⟨s, hs⟩ : ∃ s, s = S + S % 2 := ⟨_, rfl⟩
    by_cases ok : P + 1 < 40 ∧ S + S % 2 + n ≤ 60000
    · have hrep := rep_ok (N := N) (d := d) (s := s) (by omega) ok.1 f3 f4 hs ok.2 hps f6 hlst hno hB
      obtain ⟨F, hF1, hF2, hF3⟩ := hrep
      obtain ⟨th, a1, a2, a3, a4, a5, a6, a7, a8, a9, r, rfl⟩ := f5
      have hadd := m_add (N := N) (P := P + 1) (K := K) (S := S) (n := n) (w := w) (h := h) (x := d) (y := d) (no := no) (oR := oR) (ol := ol) (out := out) (f := f) (pg := pg) (pl := pc) (ls := lc) (th := th) (a1 := a1) (a2 := a2) (a3 := a3) (a4 := a4) (a5 := a5) (a6 := a6) (a7 := a7) (a8 := a8) (a9 := a9) (r := r) (by omega) ok.1 f3 hn1 ok.2 hw1 hw2 hh1 hh2 hd1 (by omega) hd1 (by omega) (by omega) hno2 (fun i hi => hB i (by omega))
      rw [← hs] at hadd
      simp only [hadd, hF3, Option.bind_some, nI_1]
      exact ih fu fu2 (j + 1) (P + 1) _ _ s oR _ _ _ _ _ _ _ _ (by omega) (by omega) (by omega) (by omega) hod hof (fl_next (S := S) ok.1 f3 hs (by omega) hF1 f7 ⟨hw1, hw10⟩ ⟨hh1, hh2⟩ hls f8 (fun i hi => by rw [bw_low _ _ _ _ (by omega), bw_low _ _ _ _ hi]) (cdd_congr hcd (fun i hi => (hF1 _ (by omega)).symm.trans (hF2 i hi)))) (lst_next (by omega) (by omega) hF2) (by omega)
    · have hrep := rep_no (N := N) (K := K) (d := d) f2 f4 ok hlst
      have hadd := m_addF (N := N) (oR := oR) (ol := ol) (no := no) (out := out) (f := f) (pg := pg) (pl := pc) (ls := lc) (w := nI w) (h := nI h) (x := nI d) (y := nI d) f5 f2 f4 hnb ok
      simp only [hadd, hrep, Option.bind_some, nI_1]
      refine ⟨false, P + 1, K, S, _, t, g, oP, f, pg, pc, lc, ?_, ?_, hfl⟩
      · cases fu with
        | zero => omega
        | succ fu =>
          rw [lp_Main_printSheet_120c2, hcp]
          by_cases q : cp ≤ j + 1
          · rw [if_pos (nI_le q (by omega))]; rfl
          · rw [if_neg (nI_ge (by omega) (by omega)), if_pos rfl]; rfl
      · cases fu2 with
        | zero => omega
        | succ fu2 =>
          rw [lp_Ref_print_150f5, hgp]
          by_cases q : cp ≤ j + 1
          · rw [if_pos (nI_le q (by omega))]; rfl
          · rw [if_neg (nI_ge (by omega) (by omega)), if_neg (show ¬ fd_Ref_fault (fs_Ref_fault oR 20) = 0 from (by decide : ¬ (20 : Int32) = 0))]; rfl
theorem fnd_congr {P Q : Nat → Bool} : ∀ m k, (∀ x, k ≤ x → x < k + m → P x = Q x) → fnd P m k = fnd Q m k := by
  intro m
  induction m with
  | zero => intro k _; rfl
  | succ m ih =>
    intro k h
    unfold fnd
    rw [h k (Nat.le_refl _) (by omega), ih (k + 1) (fun x h1 h2 => h x (by omega) (by omega))]
theorem codeL_congr {w : Nat} {up up' ln ln' : Nat → Bool} (hu : ∀ x, x < w → up x = up' x) (hl : ∀ x, x < w → ln x = ln' x) : ∀ m s c, codeL w up ln m s c = codeL w up' ln' m s c := by
  have f1 : ∀ (c : Bool) s, fnd (chP up c) (w - s) s = fnd (chP up' c) (w - s) s := fun c s => fnd_congr _ _ (fun x h1 h2 => by
    unfold chP
    rw [hu x (by omega)]
    by_cases q : 0 < x
    · rw [hu (x - 1) (by omega)]
    · rw [decide_eq_false q, Bool.false_and, Bool.false_and])
  have f2 : ∀ (c : Bool) s, fnd (fun x => up x == c) (w - s) s = fnd (fun x => up' x == c) (w - s) s := fun c s => fnd_congr _ _ (fun x h1 h2 => by show (up x == c) = (up' x == c); rw [hu x (by omega)])
  have f3 : ∀ (c : Bool) s, fnd (fun x => ln x == c) (w - s) s = fnd (fun x => ln' x == c) (w - s) s := fun c s => fnd_congr _ _ (fun x h1 h2 => by show (ln x == c) = (ln' x == c); rw [hl x (by omega)])
  intro m
  induction m with
  | zero => intro s c; rfl
  | succ m ih =>
    intro s c
    rw [codeL, codeL]
    simp only [f1, f2, f3, ih]
theorem rows_congr {w y : Nat} {D D' : Nat → Nat → Bool} {up up' : Nat → Bool} {B : List Bool} (hu : ∀ x, x < w → up x = up' x) : ∀ m, (∀ l x, l < m → x < w → D x (y + l) = D' x (y + l)) → (∀ x, x < w → lastU (rows D y m) up x = lastU (rows D' y m) up' x) ∧ linesB w (rows D y m) up B = linesB w (rows D' y m) up' B := by
  intro m
  induction m with
  | zero => intro _; exact ⟨hu, rfl⟩
  | succ m ih =>
    intro h
    obtain ⟨i1, i2⟩ := ih (fun l x hl hx => h l x (by omega) hx)
    rw [rows_succ, rows_succ, lastU_app, lastU_app, linesB_app, linesB_app, i2]
    refine ⟨fun x hx => h m x (by omega) hx, ?_⟩
    show _ ++ codeL _ _ _ _ _ _ = _ ++ codeL _ _ _ _ _ _
    rw [codeL_congr i1 (fun x hx => h m x (by omega) hx)]
theorem lp_eachL {M : Nat} (lp : Nat → Int32 → (Nat → Int64) → Option (Nat → Int64)) (h : ∀ n k g, k ≤ M → lp (n + 1) (nI k) g = if M ≤ k then some g else lp n (nI (k + 1)) (vp_updL g k 0)) : ∀ (m fu k : Nat) (g : Nat → Int64), M - k = m → m < fu → k ≤ M → ∃ g', lp fu (nI k) g = some g' ∧ ∀ i, g' i = if k ≤ i ∧ i < M then 0 else g i := by
  intro m
  induction m with
  | zero =>
    intro fu k g hm hf hk
    obtain ⟨fu, rfl⟩ : ∃ z, fu = z + 1 := ⟨fu - 1, by omega⟩
    exact ⟨g, by rw [h _ _ _ hk, if_pos (by omega)], fun i => by rw [if_neg (by omega)]⟩
  | succ m ih =>
    intro fu k g hm hf hk
    obtain ⟨fu, rfl⟩ : ∃ z, fu = z + 1 := ⟨fu - 1, by omega⟩
    obtain ⟨g', e1, e2⟩ := ih fu (k + 1) (vp_updL g k 0) (by omega) (by omega) (by omega)
    refine ⟨g', by rw [h _ _ _ hk, if_neg (by omega)]; exact e1, fun i => ?_⟩
    rw [e2]
    by_cases q : k + 1 ≤ i ∧ i < M
    · rw [if_pos q, if_pos (by omega)]
    · rw [if_neg q]
      by_cases q2 : i = k
      · subst q2; rw [if_pos (by omega), pk_uLs]
      · rw [if_neg (by omega), pk_uLn q2]
/-- an empty sheet on the reference's side -/
theorem sh_blank {N w h r sd nd n u : Nat} {os : ob_mSheet} {gmk gd : Nat → Int32} {b : Nat → Int64} {mk : Nat → mkT} (hM : mdR w h r sd nd n u os gmk gd b mk) (hm : fd_mSheet_marks os = nI n) (hN : nd < N) :
    ∃ b', ex_mSheet_blank N os nd b = some (fs_mSheet_overrun (fs_mSheet_bytes (fs_mSheet_marks os 0) 0) 0, b') ∧ ∀ x y, x < 64 * sd → sd * y + sd ≤ nd → wdots b' (sd * y) x = false := by
  obtain ⟨m1, m2, m3, m4, m5, m6, m7⟩ := hM
  obtain ⟨s1, s2, s3, s4, s5, s6, s7, s8, s9, s10⟩ := m6
  unfold ex_mSheet_blank
  by_cases q : n = 0
  · subst q
    obtain ⟨N', rfl⟩ : ∃ z, N = z + 1 := ⟨N - 1, by omega⟩
    refine ⟨b, ?_, fun x y hx hy => ?_⟩
    · rw [lp_mSheet_blank_2, hm, if_pos (show nI 0 ≤ 0 by decide), ite_self]; rfl
    · rw [m7 x y hx hy]
      show (if x < w ∧ y < h then false else false) = false
      rw [ite_self]
  · obtain ⟨b', e1, e2⟩ := lp_eachL (M := sd * h) (lp_mSheet_blank_2 os nd) (fun f k g hk => by
      rw [lp_mSheet_blank_2, s1, s3, nI_mul, hm, if_neg (show ¬ nI n ≤ 0 from nI_nle (by omega) (by omega))]
      by_cases q2 : sd * h ≤ k
      · rw [if_pos q2, if_pos (nI_le q2 (by omega))]
      · rw [if_neg q2, if_neg (nI_ge (by omega) (by omega)), if_pos (dk_in_nI (by omega) (by omega)), nI_clamp (by omega), nI_1, dk_let]) (sd * h) N 0 b rfl (by omega) (by omega)
    have e1' : lp_mSheet_blank_2 os nd N 0 b = some b' := e1
    refine ⟨b', by rw [e1']; rfl, fun x y hx hy => ?_⟩
    unfold wdots
    rw [e2]
    by_cases q2 : sd * y + x / 64 < sd * h
    · rw [if_pos ⟨by omega, q2⟩]; exact lb_0 _
    · rw [if_neg (by omega)]
      have hyh : ¬ y < h := by
        intro hlt
        have : sd * (y + 1) ≤ sd * h := Nat.mul_le_mul_left sd hlt
        rw [Nat.mul_succ] at this; omega
      have := m7 x y hx hy
      rw [if_neg (fun hh => hyh hh.2)] at this
      exact this
/-- a cleared sheet -/
theorem sh_clear {k r d sd nd : Nat} {o : ob_Sheet} {os : ob_mSheet} {gmk gd : Nat → Int32} {b b' : Nat → Int64} {v : Int32} (h : shR k r d o os gmk gd b sd nd) (hb : ∀ x y, x < 64 * sd → sd * y + sd ≤ nd → wdots b' (sd * y) x = false) :
    shR k r d (fs_Sheet_due (fs_Sheet_overrun (fs_Sheet_used (fs_Sheet_count (fs_Sheet_bandWords o v) 0) 0) 0) 0) (fs_mSheet_overrun (fs_mSheet_bytes (fs_mSheet_marks os 0) 0) 0) gmk gd b' sd nd := by
  obtain ⟨n, u, ikd, inu, io, so, mk, c1, c2, c3, c4, c5, c6, hik, hmd⟩ := h
  obtain ⟨m1, m2, m3, m4, m5, m6, m7⟩ := hmd
  refine ⟨0, 0, ikd, inu, io, so, mk, rfl, rfl, rfl, rfl, rfl, Or.inl rfl, hik, by omega, by omega, ?_, fun j hj => absurd hj (by omega), m5, m6, fun x y hx hy => ?_⟩
  · intro j hj; exact absurd hj (by omega)
  · rw [hb x y hx hy]
    show false = if x < wdN k d ∧ y < hgN k d then false else false
    rw [ite_self]
def ovN (z : Int32) : Int32 := if z = 0 then 0 else 1
theorem pr_sheet {N k r d cp sd nd P K S nb BL no : Nat} {p : Nat → Nat} {om : ob_Main} {o : ob_Sheet} {oc : ob_Coder} {of : ob_OutFile} {os : ob_mSheet} {or : ob_Ref} {od : ob_mDesk} {ol : ob_mLines} {oP : ob_mPictures} {g gmk gd ga gl t gp ml ma wr br wb bb bl mo out pg f pc lc : Nat → Int32} {bnd b : Nat → Int64} (hN : 2 ^ 22 < N) (hk : k < 5) (hr : r < 4) (hd : isDpi d) (hcp : 1 ≤ cp ∧ cp ≤ 32767) (h : shR k r d o os gmk gd b sd nd) (hnd : nd < 2 ^ 22) (hfl : flR P K S of t g oP f pg) (hom : fd_Main_dpi om = nI d) (hor : fd_Ref_dpi or = nI d) (hof : fd_Ref_fault or = 0) (hov : fd_Main_overruns om = fd_Ref_overruns or)
    (hnb : nb < 2 ^ 22) (hB1 : 1 ≤ BL) (hB2 : BL ≤ 20000) (hBL : fd_Sheet_bandLines o = nI BL) (hroom : BL * ((wdN k d + 63) / 64) ≤ nb) (hT : mTab wr br wb bb bl mo) (hno : 60000 ≤ no) (hno2 : no < 100000) (hout : ∀ i, i < no → isB (out i))
    (hgp : ∃ y1 : Nat, y1 < 40 ∧ (fd_mDesk_pages od - 1) - (fd_mDesk_pages od - 1) / 40 * 40 = nI y1 ∧ gp (4 * y1 + 3) = nI cp) :
    ∃ ok : Bool, ∃ P' K' S' v oc' of' g' bnd' ga' gl' t' ol' ml' ma' b' out' oP' pg' f' pc' lc', ex_Main_printSheet N om o (pgC d k r cp p) oc of g gmk gd nb bnd ga gl t = some (fs_Main_overruns om (fd_Main_overruns om + ovN (fd_Sheet_overrun o)), fs_Sheet_due (fs_Sheet_overrun (fs_Sheet_used (fs_Sheet_count (fs_Sheet_bandWords o v) 0) 0) 0) 0, oc', of', g', bnd', ga', gl', t', if ok then 0 else 20) ∧
      ex_Ref_print N or od gp ol os ml ma nd b wr br wb bb bl mo no out oP pg f pc lc = some ((if ok then fs_Ref_overruns or (fd_Ref_overruns or + ovN (fd_Sheet_overrun o)) else fs_Ref_fault (fs_Ref_overruns or (fd_Ref_overruns or + ovN (fd_Sheet_overrun o))) 20), ol', fs_mSheet_overrun (fs_mSheet_bytes (fs_mSheet_marks os 0) 0) 0, ml', ma', b', out', oP', pg', f', pc', lc') ∧ flR P' K' S' of' t' g' oP' f' pg' ∧ (∀ i, i < no → isB (out' i)) ∧ shR k r d (fs_Sheet_due (fs_Sheet_overrun (fs_Sheet_used (fs_Sheet_count (fs_Sheet_bandWords o v) 0) 0) 0) 0) (fs_mSheet_overrun (fs_mSheet_bytes (fs_mSheet_marks os 0) 0) 0) gmk gd b' sd nd := by
  have h' := h
  obtain ⟨n0, u, ikd, inu, io, so, mk, c1, c2, c3, c4, c5, c6, hik, hmd⟩ := h'
  have hmd' := hmd
  obtain ⟨m1, m2, m3, m4, m5, m6, m7⟩ := hmd'
  obtain ⟨s1, s2, s3, s4, s5, s6, s7, s8, s9, s10⟩ := m6
  obtain ⟨f1, f2, f3, f4, f5, f6, f7, f8⟩ := hfl
  obtain ⟨y1, y40, hy1, hgp⟩ := hgp
  subst f1
  have hd3 : d ≤ 300 := by rcases hd with rfl | rfl | rfl <;> omega
  have hd0 : 75 ≤ d := by rcases hd with rfl | rfl | rfl <;> omega
  obtain ⟨w, hw⟩ : ∃ w, w = wdN k d := ⟨_, rfl⟩
  obtain ⟨hg, hhg⟩ : ∃ hg, hg = hgN k d := ⟨_, rfl⟩
  have hwb := wd_le (k := k) (d := d) hk hd3
  have hwl : 1 ≤ w ∧ 1 ≤ hg := by
    have a1 := (acr_tab k hk).2; have a2 := (dwn_tab k hk).2
    have b1 : 50000 * 75 ≤ acrN k * d := Nat.mul_le_mul (by omega) hd0
    have b2 : 50000 * 75 ≤ dwnN k * d := Nat.mul_le_mul (by omega) hd0
    rw [hw, hhg]; unfold wdN hgN; omega
  obtain ⟨hpw, hph⟩ := pg_wide (N := N) (op := pgC d k r cp p) hk hd3 rfl rfl
  rw [← hw, ← hhg] at m7 hmd
  rw [← hw] at hpw hwb hroom s2 s6 s9
  rw [← hhg] at hph hwb s3 s7 s10
  obtain ⟨D, hD⟩ : ∃ D, D = pntD gmk gd mk n0 := ⟨_, rfl⟩
  obtain ⟨Bf, hBf⟩ : ∃ Bf, Bf = linesB w (rows D 0 hg) (fun _ => false) [] := ⟨_, rfl⟩
  have hBl : Bf.length ≤ 10001000 * 5100 := by
    have := linesB_length w (by omega) (rows D 0 hg) (fun _ => false) []
    have hl : (rows D 0 hg).length = hg := by unfold rows; simp
    rw [hl, ← hBf] at this
    have : 10001000 * hg ≤ 10001000 * 5100 := Nat.mul_le_mul_left _ (by omega)
    simp at *; omega
  obtain ⟨n, hn⟩ : ∃ n, n = (endB Bf).length / 8 := ⟨_, rfl⟩
  have hel : (endB Bf).length = Bf.length + 24 + (8 - (Bf.length + 24) % 8) % 8 := by
    unfold endB; rw [padB_length, List.length_append, List.length_append, WB4097]
  have hnl : 1 ≤ n ∧ n < 2 ^ 60 ∧ (endB Bf).length = 8 * n := by omega
  obtain ⟨sS, hs⟩ : ∃ sS, sS = S + S % 2 := ⟨_, rfl⟩
  obtain ⟨g0, hg0⟩ : ∃ g0, g0 = (if S < 60000 then bw g S (le 0 (S % 2)) else g) := ⟨_, rfl⟩
  -- the class's coder
  obtain ⟨oc1, g1, e3, hc1⟩ := sm_cbegin (N := N) (w := w) (L := S) (P := P) (kk := nI K) (o := oc) (ga := ga) (g := g) f4 f2
  rw [← hg0, ← hs] at hc1
  obtain ⟨v, bnd', oc2, ga', gl', g2, e4, hc2⟩ := pr_bands (N := N) (n := n0) (w := w) (hg := hg) (s := sS) (P := P) (nb := nb) (BL := BL) (om := om) (of := (nI S, nI P, nI K)) (op := pgC d k r cp p) (gmk := gmk) (gd := gd) (g0 := g0) (mk := mk) hN m1 m3 (by omega) hpw (by omega) (by omega) hnb hB1 hB2 hroom hg N 0 o bnd (fun _ => false) [] oc1 ga gl g1 (by omega) (by omega) (by omega) c1 hBL hc1
  have e4' : lp_Main_printSheet_48 N om (pgC d k r cp p) (nI S, nI P, nI K) gmk gd nb (nI hg) N 0 o bnd ga gl oc1 g1 = some (fs_Sheet_bandWords o v, bnd', ga', gl', oc2, g2) := e4
  rw [Nat.sub_zero, ← hD, ← hBf] at hc2
  obtain ⟨oc3, g3, hlow, hfin⟩ := sm_cfinish (N := N) (K := K) (L := nI S) (h := nI hg) (ac := nI d) (dn := nI d) (t := t) (by omega) (by omega) (by omega) hc2
  rw [← hn] at hfin
  -- the reference's lines
  obtain ⟨a2, l2, q1, hdot⟩ := sm_mbegin (N := N) (w := w) (o := ol) (a := ma) (l := ml) (by omega) (by omega)
  obtain ⟨out2, ga2, gl2, q2, hm2⟩ := sm_lprint (N := N) (sd := sd) (nd := nd) (w := w) (hg := hg) (no := no) (o := os) (gd := b) (r := ol.2.2) hT (by omega) s1 s2 s3 (by omega) (by omega) s6 s7 (by omega) hno2 hg N 0 (fun _ => false) [] out a2 l2 (by omega) (by omega) (by omega) (by simp; omega) hdot ⟨hout, fun k hk hq => absurd hq (by simp)⟩
  have hsame : linesB w (rows (fun x y => wdots b (sd * y) x) 0 hg) (fun _ => false) [] = Bf := by
    rw [hBf]
    refine (rows_congr (fun x hx => rfl) hg (fun l x hl hx => ?_)).2
    show wdots b (sd * (0 + l)) x = D x (0 + l)
    have hlt : 0 + l < hg := by omega
    rw [m7 x (0 + l) (by omega) (by have : sd * (0 + l + 1) ≤ sd * hg := Nat.mul_le_mul_left sd hlt; rw [Nat.mul_succ] at this; omega), if_pos ⟨hx, hlt⟩, hD]
  rw [hsame] at q2 hm2
  have q2' : lp_Ref_print_43d3 N os nd b wr br wb bb bl mo no N 0 out (mSt (nI w) 0 ol.2.2) a2 l2 = some (out2, mSt (nI w) Bf.length ol.2.2, ga2, gl2) := q2
  obtain ⟨out3, q3, hm3⟩ := sm_mend (N := N) (w := nI w) (r := ol.2.2) (by omega) hno2 (by omega) hm2
  rw [← hn] at q3
  obtain ⟨b', q4, hb'⟩ := sh_blank (N := N) hmd c3 (by omega)
  obtain ⟨or1, hor1⟩ : ∃ or1, or1 = fs_Ref_overruns or (fd_Ref_overruns or + ovN (fd_Sheet_overrun o)) := ⟨_, rfl⟩
  have hor1d : fd_Ref_dpi or1 = nI d := by rw [hor1]; exact hor
  have hor1f : fd_Ref_fault or1 = 0 := by rw [hor1]; exact hof
  obtain ⟨os2, hos2⟩ : ∃ os2, os2 = fs_mSheet_overrun (fs_mSheet_bytes (fs_mSheet_marks os 0) 0) 0 := ⟨_, rfl⟩
  have hu1 : fd_mSheet_wide ((os2, b') : rs_mSheet_blank).1 = nI w := by rw [hos2]; exact s2
  have hu2 : fd_mSheet_high ((os2, b') : rs_mSheet_blank).1 = nI hg := by rw [hos2]; exact s3
  have hgp' : gp ((4 * nI y1) + 3).toNatClampNeg = nI cp := by rw [nI_Lmul, nI_addL]; show gp (nI (4 * y1 + 3)).toNatClampNeg = nI cp; rw [nI_clamp (by omega)]; exact hgp
  have hyin : dk_in (4 * nI y1 + 3) 160 := by rw [nI_Lmul, nI_addL]; exact dk_in_nI (show 4 * y1 + 3 < 160 by omega) (by omega)
  have hbytes : ∀ i, i < n → i < no → out3 i = byI (bvf (gb (endB Bf)) (8 * i) 8) := by
    intro i hi hi2
    have := hm3.2 i hi2 (by omega)
    have hmin : min 8 ((endB Bf).length - 8 * i) = 8 := by omega
    rw [hmin, Nat.sub_self, Nat.pow_zero, Nat.div_one] at this
    rw [← this]; exact isB_byI (hm3.1 i hi2)
  -- the pages
  have pages : ∃ ok : Bool, ∃ ok1 : Bool, ∃ of3 g4 t3 P' K' S' of' g' t' oP' pg' f' pc' lc', ex_Coder_finish N oc2 (nI S, nI P, nI K) g2 t (nI hg) (nI d) (nI d) = some (oc3, of3, g4, t3, nI ok1.toNat) ∧ lp_Main_printSheet_120c2 N om (pgC d k r cp p) N 1 (nI ok1.toNat) of3 g4 t3 = some (nI ok.toNat, of', g', t') ∧ lp_Ref_print_150f5 N gp no (nI y1) (mSt (nI w) (endB Bf).length ol.2.2, out3, lN n) (os2, b') N 0 or1 oP pg f pc lc = some ((if ok then or1 else fs_Ref_fault or1 20), oP', pg', f', pc', lc') ∧ flR P' K' S' of' t' g' oP' f' pg' := by
    obtain ⟨N', rfl⟩ : ∃ z, N = z + 1 := ⟨N - 1, by omega⟩
    have hcp0 : ¬ nI cp ≤ 0 := nI_nle (by omega) (by omega)
    rcases hfin with ⟨z1, z2, z3, z4⟩ | ⟨z1, z4⟩
    · obtain ⟨th, a1, a2', a3, a4, a5, a6, a7, a8, a9, r', rfl⟩ := f5
      have hadd := m_add (N := N' + 1) (P := P) (K := K) (S := S) (n := n) (w := w) (h := hg) (x := d) (y := d) (no := no) (oR := or1) (ol := mSt (nI w) (endB Bf).length ol.2.2) (out := out3) (f := f) (pg := pg) (pl := pc) (ls := lc) (th := th) (a1 := a1) (a2 := a2') (a3 := a3) (a4 := a4) (a5 := a5) (a6 := a6) (a7 := a7) (a8 := a8) (a9 := a9) (r := r') (by omega) z1 f3 hnl.1 (by omega) hwl.1 (by omega) hwl.2 (by omega) (by omega) (by omega) (by omega) (by omega) (by omega) (by omega) (fun i hi => hm3.1 i (by omega))
      rw [← hs] at hadd
      have hFG : agree (sS + n) g3 (bw (bw f S (le 0 (S % 2))) sS (seg out3 0 n)) := by
        intro i hi
        rw [bw_get, seg_length]
        by_cases q : sS ≤ i ∧ i < sS + n
        · rw [if_pos (by omega)]
          have := z3 (i - sS) (by omega)
          rw [show sS + (i - sS) = i by omega] at this
          rw [this, ← hbytes (i - sS) (by omega) (by omega)]
          unfold seg
          rw [List.getD_eq_getElem?_getD, List.getElem?_map, List.getElem?_range (by omega)]
          show out3 (i - sS) = out3 (0 + (i - sS))
          congr 1; omega
        · rw [if_neg (by omega), hlow i (by omega), hg0, if_pos (by omega)]
          have := agree_bw f6 S (le 0 (S % 2)) (Nat.le_refl _)
          rw [le_length] at this
          exact this i (by omega)
      have hcd : cdd w n (rows D 0 hg) out3 := ⟨by rw [hn, hBf], fun i hi => by rw [← hBf]; exact hbytes i hi (by omega)⟩
      have hlr : (rows D 0 hg).length = hg := by unfold rows; simp
      have hnext := fl_next (S := S) (K := K) (w := w) (h := hg) (x := d) (y := d) (th := 0) (r := r') z1 f3 hs (by omega) hFG f7 (f := f) (ls := rows D 0 hg) ⟨hwl.1, by omega⟩ ⟨hwl.2, by omega⟩ hlr f8 (fun i hi => by rw [bw_low _ _ _ _ (by omega), bw_low _ _ _ _ hi]) (cdd_congr hcd (fun i hi => (hFG _ (by omega)).symm.trans (by rw [z3 i hi, ← hbytes i hi (by omega)])))
      have hlst := lst_next (P := P) (w := w) (h := hg) (x := d) (y := d) (K := K) (t := t) (s := sS) (n := n) (F := g3) (out := out3) (by omega) (by omega) (fun i hi => by rw [z3 i hi, ← hbytes i hi (by omega)])
      obtain ⟨ok, P', K', S', of', t', g', oP', f', pg', pc', lc', r1, r2, r3⟩ := pr_copies (ls := rows D 0 hg) hlr (by omega) (N := N' + 1) (cp := cp) (w := w) (h := hg) (d := d) (n := n) (no := no) (om := om) (op := pgC d k r cp p) (ol := mSt (nI w) (endB Bf).length ol.2.2) (out := out3) (gp := gp) (y1 := nI y1) (u82 := (os2, b')) hN hom rfl hcp.2 hgp' (by omega) hd3 hwl.1 (by omega) hwl.2 (by omega) hu1 hu2 hno (by omega) hnl.1 hnl.2.1 hm3.1 hcd (cp - 1) (N' + 1) N' 1 P _ _ sS or1 _ _ _ _ _ _ (upd pc 0 (nI sS)) (upd lc 0 (nI n)) rfl (by omega) (by omega) (by omega) hor1d hor1f hnext hlst (by omega)
      refine ⟨ok, true, _, _, _, P', K', S', of', g', t', oP', pg', f', pc', lc', z4, r1, ?_, r3⟩
      rw [lp_Ref_print_150f5, hgp', if_neg hcp0, if_pos hor1f, hor1d, hu1, hu2]
      refine (bind_eq hadd).trans ?_
      exact r2
    · have hadd := m_addF (N := N' + 1) (oR := or1) (ol := mSt (nI w) (endB Bf).length ol.2.2) (no := no) (out := out3) (f := f) (pg := pg) (pl := pc) (ls := lc) (w := nI w) (h := nI hg) (x := nI d) (y := nI d) f5 f2 f4 hnl.2.1 (by rw [← hs]; exact z1)
      refine ⟨false, false, _, _, _, P, K, S, (nI S, nI P, nI K), g3, t, oP, pg, f, pc, lc, z4, ?_, ?_, ⟨rfl, f2, f3, f4, f5, fun i hi => ?_, f7, f8⟩⟩
      · rw [lp_Main_printSheet_120c2, if_pos (show nI (false).toNat = 0 from rfl), ite_self]
      · rw [lp_Ref_print_150f5, hgp', if_neg hcp0, if_pos hor1f, hor1d, hu1, hu2]
        refine (bind_eq hadd).trans ?_
        obtain ⟨N'', rfl⟩ : ∃ z, N' = z + 1 := ⟨N' - 1, by omega⟩
        rw [lp_Ref_print_150f5, if_neg (show ¬ fd_Ref_fault (fs_Ref_fault or1 20) = 0 from (by decide : ¬ (20 : Int32) = 0)), ite_self]; rfl
      · rw [hlow i (by omega), hg0, ← f6 i hi]
        by_cases q : S < 60000
        · rw [if_pos q, bw_low _ _ _ _ hi]
        · rw [if_neg q]
  obtain ⟨ok, ok1, of3, g4, t3, P', K', S', of', g', t', oP', pg', f', pc', lc', z1, z2, z3, z4⟩ := pages
  refine ⟨ok, P', K', S', v, oc3, of', g', bnd', ga', gl', t', mSt (nI w) (endB Bf).length ol.2.2, gl2, ga2, b', out3, oP', pg', f', pc', lc', ?_, ?_, z4, hm3.1, sh_clear h hb'⟩
  · unfold ex_Main_printSheet
    rw [hom]
    rcases c6 with q | q
    · rw [if_pos q]
      refine (bind_eq hph).trans ((bind_eq hpw).trans ((bind_eq e3).trans ((bind_eq e4').trans ((bind_eq (rfl : ex_Sheet_clear N (fs_Sheet_bandWords o v) = some _)).trans ((bind_eq z1).trans ((bind_eq z2).trans ?_))))))
      have hz : fs_Main_overruns om (fd_Main_overruns om + ovN (fd_Sheet_overrun o)) = om := by
        unfold ovN; rw [if_pos q, Int32.add_zero]
      rw [hz]
      cases ok with
      | true => exact if_neg (show ¬ nI (true).toNat = 0 by decide)
      | false => exact if_pos (show nI (false).toNat = 0 from rfl)
    · have nq : ¬ fd_Sheet_overrun o = 0 := by rw [q]; decide
      rw [if_neg nq]
      have e4'' := (lp48_same (N := N) (nb := nb) (om := om) (op := pgC d k r cp p) (of := (nI S, nI P, nI K)) (gm := gmk) (gd := gd) (u := nI hg) N 0 o bnd ga gl oc1 g1).trans e4'
      refine (bind_eq hph).trans ((bind_eq hpw).trans ((bind_eq e3).trans ((bind_eq e4'').trans ((bind_eq (rfl : ex_Sheet_clear N (fs_Sheet_bandWords o v) = some _)).trans ((bind_eq z1).trans ((bind_eq z2).trans ?_))))))
      have hz : ovN (fd_Sheet_overrun o) = 1 := by unfold ovN; rw [if_neg nq]
      rw [hz]
      cases ok with
      | true => exact if_neg (show ¬ nI (true).toNat = 0 by decide)
      | false => exact if_pos (show nI (false).toNat = 0 from rfl)
  · unfold ex_Ref_print
    simp only [dk_let]
    rw [hy1, s2, if_pos hyin]
    refine (bind_eq q1).trans ((bind_eq q2').trans ((bind_eq q3).trans ?_))
    have q4' : ex_mSheet_blank N os nd b = some (os2, b') := by rw [hos2]; exact q4
    rw [← hor1, ← hos2]
    rcases c6 with q | q
    · have hz : or1 = fs_Ref_overruns or (fd_Ref_overruns or + 0) := by rw [hor1]; unfold ovN; rw [if_pos q]
      rw [← c5, if_pos q]
      refine (bind_eq q4').trans ?_
      rw [← hz]
      exact (bind_eq z3).trans rfl
    · have nq : ¬ fd_Sheet_overrun o = 0 := by rw [q]; decide
      have hz : or1 = fs_Ref_overruns or (fd_Ref_overruns or + 1) := by rw [hor1]; unfold ovN; rw [if_neg nq]
      rw [← c5, if_neg nq]
      refine (bind_eq q4').trans ?_
      rw [← hz]
      exact (bind_eq z3).trans rfl
/-- a glyph as both sides mean it: owner, code, left, top, width, depth, step, dots -/
abbrev gRec : Type := Int32 × Int32 × Int32 × Int32 × Int32 × Int32 × Int32 × (Nat → Nat → Bool)
def ow (z : gRec) : Int32 := z.1
def ky (z : gRec) : Int32 × Int32 := (z.1, z.2.1)
def wdR (z : gRec) : Nat := z.2.2.2.2.1.toNatClampNeg
def dpR (z : gRec) : Nat := z.2.2.2.2.2.1.toNatClampNeg
def byR (z : gRec) : Nat := dpR z * ((wdR z + 7) / 8)
def lst (f : Nat → gRec) (n : Nat) : List gRec := (List.range n).map f
theorem lst_succ (f : Nat → gRec) (n : Nat) : lst f (n + 1) = lst f n ++ [f n] := by unfold lst; rw [List.range_succ, List.map_append]; rfl
theorem lst_len (f : Nat → gRec) (n : Nat) : (lst f n).length = n := by unfold lst; simp
theorem lst_congr {f g : Nat → gRec} : ∀ n, (∀ i, i < n → f i = g i) → lst f n = lst g n := by
  intro n
  induction n with
  | zero => intro _; rfl
  | succ n ih => intro h; rw [lst_succ, lst_succ, ih (fun i hi => h i (by omega)), h n (by omega)]
theorem lst_mem {f : Nat → gRec} {n : Nat} {z : gRec} : z ∈ lst f n ↔ ∃ i, i < n ∧ f i = z := by unfold lst; simp
theorem lst_put (f : Nat → gRec) : ∀ n c z, c < n → (f c :: lst (fun i => if i = c then z else f i) n).Perm (z :: lst f n) := by
  intro n
  induction n with
  | zero => intro c z hc; omega
  | succ n ih =>
    intro c z hc
    rw [lst_succ, lst_succ]
    by_cases q : c = n
    · subst q
      rw [lst_congr c (g := f) (fun i hi => if_neg (by omega)), if_pos rfl]
      refine ((List.perm_append_comm (l₁ := lst f c) (l₂ := [z])).cons (f c)).trans ?_
      refine (List.Perm.swap z (f c) (lst f c)).trans ?_
      exact (List.perm_append_comm (l₁ := [f c]) (l₂ := lst f c)).cons z
    · rw [if_neg (by omega)]
      have := ih c z (by omega)
      exact this.append_right [f n]
/-- one goes, and the last takes its place -/
theorem lst_swap (f f' : Nat → gRec) (n c : Nat) (hc : c < n + 1) (h : ∀ i, i < n → f' i = if i = c then f n else f i) : (f c :: lst f' n).Perm (lst f (n + 1)) := by
  rw [lst_congr n h, lst_succ]
  by_cases q : c = n
  · subst q
    rw [lst_congr c (g := f) (fun i hi => if_neg (by omega))]
    exact List.perm_append_comm (l₁ := [f c]) (l₂ := lst f c)
  · exact (lst_put f n c (f n) (by omega)).trans (List.perm_append_comm (l₁ := [f n]) (l₂ := lst f n))
/-- one goes, and those behind it move up -/
theorem lst_shift (f f' : Nat → gRec) : ∀ n c, c < n + 1 → (∀ i, i < n → f' i = if i < c then f i else f (i + 1)) → (f c :: lst f' n).Perm (lst f (n + 1)) := by
  intro n
  induction n with
  | zero => intro c hc _; have : c = 0 := by omega
            subst this; exact List.Perm.refl _
  | succ n ih =>
    intro c hc h
    by_cases q : c = n + 1
    · subst q
      rw [lst_congr (n + 1) (g := f) (fun i hi => by rw [h i hi, if_pos hi]), lst_succ f (n + 1)]
      exact List.perm_append_comm (l₁ := [f (n + 1)]) (l₂ := lst f (n + 1))
    · rw [lst_succ f', h n (by omega), if_neg (by omega), lst_succ f (n + 1)]
      exact (ih c (by omega) (fun i hi => h i (by omega))).append_right [f (n + 1)]
def bySum (l : List gRec) : Nat := (l.map byR).sum
theorem bySum_perm {l l' : List gRec} (h : l.Perm l') : bySum l = bySum l' := by unfold bySum; exact (h.map byR).sum_nat
theorem bySum_cons (z : gRec) (l : List gRec) : bySum (z :: l) = byR z + bySum l := by unfold bySum; simp
theorem fl_rem {l l' : List gRec} {z : gRec} {k : Int32} (h : (z :: l').Perm l) (hz : ow z = k) : (l'.filter (fun y => !decide (ow y = k))).Perm (l.filter (fun y => !decide (ow y = k))) := by
  have := h.filter (fun y => !decide (ow y = k))
  rw [List.filter_cons_of_neg (by simp [hz])] at this
  exact this
theorem fl_all {l : List gRec} {k : Int32} (h : ∀ z, z ∈ l → ow z ≠ k) : l.filter (fun y => !decide (ow y = k)) = l := List.filter_eq_self.mpr (fun z hz => by simp [h z hz])
/-- the glyphs of the class -/
def recC (gg gdt : Nat → Int32) (c : Nat) : gRec := (gg (9 * c), gg (9 * c + 1), gg (9 * c + 2), gg (9 * c + 3), gg (9 * c + 4), gg (9 * c + 5), gg (9 * c + 6), fun p q => decide (p < (gg (9 * c + 4)).toNatClampNeg ∧ q < (gg (9 * c + 5)).toNatClampNeg) && bitM gdt (gg (9 * c + 4)).toNatClampNeg (gg (9 * c + 7)).toNatClampNeg p q)
def aC (gg : Nat → Int32) (c : Nat) : Nat := (gg (9 * c + 7)).toNatClampNeg
def bC (gg : Nat → Int32) (c : Nat) : Nat := (gg (9 * c + 8)).toNatClampNeg
def gwC (n u : Nat) (gg gdt : Nat → Int32) : Prop := n ≤ 256 ∧ u ≤ 16384 ∧ by8 16384 gdt ∧ (∀ c, c < n → ∃ (lf tp : Int) (W Dp st : Nat), gyC gg c lf tp W Dp st (aC gg c) ∧ gyB lf tp W Dp st ∧ aC gg c + Dp * ((W + 7) / 8) ≤ u) ∧ (∀ c c', c < n → c' < n → c ≠ c' → aC gg c + bC gg c ≤ aC gg c' ∨ aC gg c' + bC gg c' ≤ aC gg c)
theorem gwC_at {n u c : Nat} {gg gdt : Nat → Int32} (h : gwC n u gg gdt) (hc : c < n) : gg (9 * c + 7) = nI (aC gg c) ∧ gg (9 * c + 8) = nI (bC gg c) ∧ aC gg c + bC gg c ≤ u ∧ bC gg c = byR (recC gg gdt c) := by
  obtain ⟨h1, h2, h3, h4, h5⟩ := h
  obtain ⟨lf, tp, W, Dp, st, g, gb, hu⟩ := h4 c hc
  obtain ⟨g2, g3, g4, g5, g6, g7, g8, g9⟩ := g
  obtain ⟨b1, b2, b3, b4, b5, b6, b7⟩ := gb
  have hb : Dp * ((W + 7) / 8) ≤ 128 * 16 := Nat.mul_le_mul b6 (by omega)
  have eb : bC gg c = Dp * ((W + 7) / 8) := by unfold bC; rw [g8, nI_clamp (by omega)]
  refine ⟨g7, by rw [eb]; exact g8, by rw [eb]; exact hu, ?_⟩
  rw [eb]
  unfold byR dpR wdR recC
  show _ = (gg (9 * c + 5)).toNatClampNeg * (((gg (9 * c + 4)).toNatClampNeg + 7) / 8)
  rw [g4, g5, nI_clamp (by omega), nI_clamp (by omega)]
theorem fs_lrem {N n at_ by_ : Nat} {o : ob_FontShelf} {f : Nat → Int32} (a : Nat → Nat) (hg : fd_FontShelf_glyphCount o - 1 = nI n) (hn : n ≤ 256) (hat : at_ ≤ 16384) (ha : ∀ g, g < n → f (9 * g + 7) = nI (a g) ∧ a g ≤ 16384) (hab : ∀ g, g < n → at_ < a g → by_ ≤ a g) :
    ∀ (m fu k : Nat) (gg : Nat → Int32), n - k = m → m < fu → k ≤ n → (∀ i, gg i = if i % 9 = 7 ∧ i < 9 * k ∧ at_ < a (i / 9) then nI (a (i / 9) - by_) else f i) →
      ∃ gg', lp_FontShelf_removeGlyph_99 o (nI at_) (nI by_) fu (nI k) gg = some gg' ∧ ∀ i, gg' i = if i % 9 = 7 ∧ i < 9 * n ∧ at_ < a (i / 9) then nI (a (i / 9) - by_) else f i := by
  intro m
  induction m with
  | zero =>
    intro fu k gg hm hf hk h
    obtain ⟨fu, rfl⟩ : ∃ z, fu = z + 1 := ⟨fu - 1, by omega⟩
    have : k = n := by omega
    subst this
    exact ⟨gg, by rw [lp_FontShelf_removeGlyph_99, hg, if_pos (nI_le (Nat.le_refl _) (by omega))], h⟩
  | succ m ih =>
    intro fu k gg hm hf hk h
    obtain ⟨fu, rfl⟩ : ∃ z, fu = z + 1 := ⟨fu - 1, by omega⟩
    have e7 : nI k * 9 + 7 = nI (9 * k + 7) := by have h9 := nI_mul k 9; rw [Nat.mul_comm] at h9; rw [show nI k * 9 = nI (9 * k) from h9, nI_addL]
    have hin : dk_in (nI (9 * k + 7)) 2304 := dk_in_nI (by omega) (by omega)
    have hv : gg (9 * k + 7) = nI (a k) := by
      rw [h, if_neg (by omega)]; exact (ha k (by omega)).1
    have hak := (ha k (by omega)).2
    have d9 : (9 * k + 7) / 9 = k := by omega
    have hck : (nI (9 * k + 7)).toNatClampNeg = 9 * k + 7 := nI_clamp (by omega)
    rw [lp_FontShelf_removeGlyph_99, hg, if_neg (nI_ge (show k < n by omega) (by omega)), e7, if_pos hin]
    by_cases q : a k ≤ at_
    · rw [if_pos (show gg (nI (9 * k + 7)).toNatClampNeg ≤ nI at_ by rw [hck, hv]; exact nI_le q (by omega)), nI_1]
      refine ih fu (k + 1) gg (by omega) (by omega) (by omega) (fun i => ?_)
      rw [h]
      by_cases q2 : i % 9 = 7 ∧ i < 9 * k ∧ at_ < a (i / 9)
      · rw [if_pos q2, if_pos ⟨q2.1, by omega, q2.2.2⟩]
      · rw [if_neg q2]
        by_cases q3 : i % 9 = 7 ∧ i < 9 * (k + 1) ∧ at_ < a (i / 9)
        · have : i / 9 = k := by omega
          rw [this] at q3; omega
        · rw [if_neg q3]
    · rw [if_neg (show ¬ gg (nI (9 * k + 7)).toNatClampNeg ≤ nI at_ by rw [hck, hv]; exact nI_ge (by omega) (by omega)), if_pos hin, if_pos hin, hck, hv, nI_sub (hab k (by omega) (by omega)), nI_1]
      simp only [dk_let]
      refine ih fu (k + 1) _ (by omega) (by omega) (by omega) (fun i => ?_)
      by_cases qi : i = 9 * k + 7
      · subst qi
        rw [pk_us, d9, if_pos ⟨by omega, by omega, by omega⟩]
      · rw [pk_un qi, h]
        by_cases q2 : i % 9 = 7 ∧ i < 9 * k ∧ at_ < a (i / 9)
        · rw [if_pos q2, if_pos ⟨q2.1, by omega, q2.2.2⟩]
        · rw [if_neg q2, if_neg (by omega)]
theorem fs_rem {N n u c : Nat} {o : ob_FontShelf} {gg gdt : Nat → Int32} (hN : 1000 < N) (hw : gwC (n + 1) u gg gdt) (hc : c < n + 1) (ho1 : fd_FontShelf_glyphCount o = nI (n + 1)) (ho2 : fd_FontShelf_used o = nI u) :
    ∃ gg' gdt', ex_FontShelf_removeGlyph N o gg gdt (nI c) = some (fs_FontShelf_used (fs_FontShelf_glyphCount o (nI n)) (nI (u - bC gg c)), gg', gdt') ∧ gwC n (u - bC gg c) gg' gdt' ∧ ∀ i, i < n → recC gg' gdt' i = if i = c then recC gg gdt n else recC gg gdt i := by
  have hat := gwC_at hw hc
  obtain ⟨at_, hat_⟩ : ∃ at_, at_ = aC gg c := ⟨_, rfl⟩
  obtain ⟨by_, hby_⟩ : ∃ by_, by_ = bC gg c := ⟨_, rfl⟩
  rw [← hat_, ← hby_] at hat
  rw [← hby_]
  obtain ⟨t7, t8, tu, tb⟩ := hat
  have hw' := hw
  obtain ⟨w1, w2, w3, w4, w5⟩ := hw'
  have o7 : ex_FontShelf_ofGlyph N o gg (nI c) 7 = some (nI at_) := (fs_of (j := 7) (by omega)).trans (by rw [t7])
  have o8 : ex_FontShelf_ofGlyph N o gg (nI c) 8 = some (nI by_) := (fs_of (j := 8) (by omega)).trans (by rw [t8])
  have eg : fd_FontShelf_glyphCount o - 1 = nI n := by rw [ho1]; exact (nI_sub (a := n + 1) (b := 1) (by omega)).trans (by congr 1)
  have el : nI u - nI at_ - nI by_ = nI (u - at_ - by_) := by rw [nI_sub (by omega), nI_sub (by omega)]
  obtain ⟨gdt', hgdt'⟩ : ∃ gdt', gdt' = va_cpy gdt gdt (at_ + by_) at_ (u - at_ - by_) := ⟨_, rfl⟩
  obtain ⟨f, hf⟩ : ∃ f, f = va_cpy gg gg (9 * n) (9 * c) 9 := ⟨_, rfl⟩
  obtain ⟨src, hsrc⟩ : ∃ src : Nat → Nat, src = fun g => if g = c then n else g := ⟨_, rfl⟩
  have fv : ∀ g j, j < 9 → f (9 * g + j) = gg (9 * src g + j) := by
    intro g j hj
    rw [hf, hsrc]
    unfold va_cpy
    show (if _ then _ else _) = gg (9 * (if g = c then n else g) + j)
    by_cases q : g = c
    · subst q; rw [if_pos (by omega), if_pos rfl]; congr 1; omega
    · rw [if_neg (by omega), if_neg q]
  have hs : ∀ g, g < n → src g < n + 1 ∧ src g ≠ c := by
    intro g hg; rw [hsrc]; show (if g = c then n else g) < n + 1 ∧ (if g = c then n else g) ≠ c
    by_cases q : g = c
    · rw [if_pos q]; omega
    · rw [if_neg q]; omega
  have dis : ∀ g, g < n → aC gg (src g) + bC gg (src g) ≤ at_ ∨ at_ + by_ ≤ aC gg (src g) := fun g hg => by
    have := w5 (src g) c (hs g hg).1 hc (hs g hg).2
    rw [← hat_, ← hby_] at this; exact this
  obtain ⟨gg', e1, e2⟩ := fs_lrem (N := N) (o := o) (f := f) (at_ := at_) (by_ := by_) (n := n) (fun g => aC gg (src g)) eg (by omega) (by omega) (fun g hg => by
    have := gwC_at hw (hs g hg).1
    exact ⟨by rw [fv g 7 (by omega)]; exact this.1, by omega⟩) (fun g hg hlt => by have := dis g hg; omega) n N 0 f rfl (by omega) (by omega) (fun i => by rw [if_neg (by omega)])
  have e1' : lp_FontShelf_removeGlyph_99 o (nI at_) (nI by_) N 0 f = some gg' := e1
  -- the table behind it
  have gj : ∀ g j, g < n → j < 9 → j ≠ 7 → gg' (9 * g + j) = gg (9 * src g + j) := by
    intro g j hg hj h7
    rw [e2, if_neg (by omega)]; exact fv g j hj
  have ga : ∀ g, g < n → gg' (9 * g + 7) = nI (if at_ < aC gg (src g) then aC gg (src g) - by_ else aC gg (src g)) := by
    intro g hg
    have d9 : (9 * g + 7) / 9 = g := by omega
    rw [e2, d9]
    by_cases q : at_ < aC gg (src g)
    · rw [if_pos ⟨by omega, by omega, q⟩, if_pos q]
    · rw [if_neg (fun hh => q hh.2.2), if_neg q, fv g 7 (by omega)]
      exact (gwC_at hw (hs g hg).1).1
  have aa : ∀ g, g < n → aC gg' g = (if at_ < aC gg (src g) then aC gg (src g) - by_ else aC gg (src g)) := by
    intro g hg
    have := gwC_at hw (hs g hg).1
    unfold aC at *
    rw [ga g hg, nI_clamp (by split <;> omega)]
  have bb : ∀ g, g < n → bC gg' g = bC gg (src g) := by
    intro g hg; unfold bC; rw [gj g 8 hg (by omega) (by omega)]
  refine ⟨gg', gdt', ?_, ⟨by omega, by omega, ?_, ?_, ?_⟩, ?_⟩
  · unfold ex_FontShelf_removeGlyph
    rw [if_neg (nI_pos (by omega)), ho1, if_pos (nI_lt hc (by omega))]
    refine (bind_eq o7).trans ((bind_eq o8).trans ?_)
    have hcp1 : dk_cp (nI (at_ + by_)) (nI at_) (nI (u - at_ - by_)) 16384 16384 = True := dk_cpT (by omega) (by omega) (by omega) (by omega)
    have hft : dk_fit .byte gdt (at_ + by_) (u - at_ - by_) := by8_fit w3 (by omega)
    have e9 : nI (n + 1) - 1 = nI n := by rw [← ho1]; exact eg
    have en : nI n * 9 = nI (9 * n) := by have h9 := nI_mul n 9; rw [Nat.mul_comm] at h9; exact h9
    have ec : nI c * 9 = nI (9 * c) := by have h9 := nI_mul c 9; rw [Nat.mul_comm] at h9; exact h9
    have hcp2 : dk_cp (nI (9 * n)) (nI (9 * c)) (nI 9) 2304 2304 = True := dk_cpT (by omega) (by omega) (by omega) (by omega)
    have hcp2' : dk_cp (nI (9 * n)) (nI (9 * c)) (9 : Int32) 2304 2304 := of_eq_true hcp2
    rw [ho2, el, nI_add, if_pos (of_eq_true hcp1), nI_clamp (by omega), nI_clamp (by omega), nI_clamp (by omega), if_pos hft, e9, en, ec, ← hgdt']
    show (if dk_cp (nI (9 * n)) (nI (9 * c)) (9 : Int32) 2304 2304 then _ else _) = _
    rw [if_pos hcp2']
    show dk_let (va_cpy gg gg (nI (9 * n)).toNatClampNeg (nI (9 * c)).toNatClampNeg (nI 9).toNatClampNeg) _ = _
    rw [nI_clamp (show 9 * n < 2 ^ 31 by omega), nI_clamp (show 9 * c < 2 ^ 31 by omega), nI_clamp (show 9 < 2 ^ 31 by omega), ← hf]
    refine (bind_eq e1').trans ?_
    rw [nI_sub (by omega)]
  · rw [hgdt']; exact by8_cpy w3 w3 (by omega)
  · intro g hg
    obtain ⟨lf, tp, W, Dp, st, hgy, hgb, hgu⟩ := w4 (src g) (hs g hg).1
    obtain ⟨y2, y3, y4, y5, y6, y7, y8, y9⟩ := hgy
    have eb : bC gg (src g) = Dp * ((W + 7) / 8) := by
      have b5 := hgb.2.2.2.2.1
      have b6 := hgb.2.2.2.2.2.1
      have hb : Dp * ((W + 7) / 8) ≤ 128 * 16 := Nat.mul_le_mul b6 (by omega)
      unfold bC; rw [y8, nI_clamp (by omega)]
    have hd := dis g hg
    have hub : aC gg' g + Dp * ((W + 7) / 8) ≤ u - by_ := by
      rw [aa g hg]
      by_cases q : at_ < aC gg (src g)
      · rw [if_pos q]; omega
      · rw [if_neg q]; omega
    refine ⟨lf, tp, W, Dp, st, ⟨by rw [gj g 2 hg (by omega) (by omega)]; exact y2, by rw [gj g 3 hg (by omega) (by omega)]; exact y3, by rw [gj g 4 hg (by omega) (by omega)]; exact y4, by rw [gj g 5 hg (by omega) (by omega)]; exact y5, by rw [gj g 6 hg (by omega) (by omega)]; exact y6, ?_, by rw [gj g 8 hg (by omega) (by omega)]; exact y8, by omega⟩, hgb, hub⟩
    rw [ga g hg, aa g hg]
  · intro g g' hg hg' hne
    have hsne : src g ≠ src g' := by
      rw [hsrc]; show (if g = c then n else g) ≠ (if g' = c then n else g')
      by_cases q : g = c
      · rw [if_pos q, if_neg (by omega)]; omega
      · rw [if_neg q]
        by_cases q2 : g' = c
        · rw [if_pos q2]; omega
        · rw [if_neg q2]; exact hne
    have h1 := w5 (src g) (src g') (hs g hg).1 (hs g' hg').1 hsne
    have h2 := dis g hg
    have h3 := dis g' hg'
    rw [aa g hg, aa g' hg', bb g hg, bb g' hg']
    by_cases q : at_ < aC gg (src g)
    · rw [if_pos q]
      by_cases q2 : at_ < aC gg (src g')
      · rw [if_pos q2]; omega
      · rw [if_neg q2]; omega
    · rw [if_neg q]
      by_cases q2 : at_ < aC gg (src g')
      · rw [if_pos q2]; omega
      · rw [if_neg q2]; omega
  · intro g hg
    have hrec : recC gg' gdt' g = recC gg gdt (src g) := by
      obtain ⟨lf, tp, W, Dp, st, hgy, hgb, hgu⟩ := w4 (src g) (hs g hg).1
      obtain ⟨y2, y3, y4, y5, y6, y7, y8, y9⟩ := hgy
      have b5 := hgb.2.2.2.2.1
      have b6 := hgb.2.2.2.2.2.1
      have hb : Dp * ((W + 7) / 8) ≤ 128 * 16 := Nat.mul_le_mul b6 (by omega)
      have eb : bC gg (src g) = Dp * ((W + 7) / 8) := by unfold bC; rw [y8, nI_clamp (by omega)]
      have j0 : gg' (9 * g) = gg (9 * src g) := gj g 0 hg (by omega) (by omega)
      unfold recC
      rw [j0, gj g 1 hg (by omega) (by omega), gj g 2 hg (by omega) (by omega), gj g 3 hg (by omega) (by omega), gj g 4 hg (by omega) (by omega), gj g 5 hg (by omega) (by omega), gj g 6 hg (by omega) (by omega)]
      congr 7
      funext p q
      rw [y4, y5, nI_clamp (by omega), nI_clamp (by omega)]
      by_cases hpq : p < W ∧ q < Dp
      · rw [decide_eq_true hpq, Bool.true_and, Bool.true_and]
        have hr : q * ((W + 7) / 8) + p / 8 < Dp * ((W + 7) / 8) := by
          have : (q + 1) * ((W + 7) / 8) ≤ Dp * ((W + 7) / 8) := Nat.mul_le_mul_right _ hpq.2
          rw [Nat.succ_mul] at this; omega
        have ea : (gg' (9 * g + 7)).toNatClampNeg = aC gg' g := rfl
        have ea2 : (gg (9 * src g + 7)).toNatClampNeg = aC gg (src g) := rfl
        rw [ea, ea2, aa g hg]
        have hd := dis g hg
        unfold bitM
        congr 2
        rw [hgdt']
        unfold va_cpy
        by_cases q2 : at_ < aC gg (src g)
        · rw [if_pos q2, if_pos (by omega)]; congr 1; omega
        · rw [if_neg q2]
          by_cases q3 : at_ ≤ aC gg (src g) + q * ((W + 7) / 8) + p / 8 ∧ aC gg (src g) + q * ((W + 7) / 8) + p / 8 < at_ + (u - at_ - by_)
          · rw [if_pos q3]; congr 1; omega
          · rw [if_neg q3]
      · rw [decide_eq_false hpq, Bool.false_and, Bool.false_and]
    rw [hrec, hsrc]
    show recC gg gdt (if g = c then n else g) = _
    split <;> rfl
/-- the glyphs of the reference -/
def byM (gm : Nat → Int32) (e : Nat) : Nat := (gm (7 * e + 5)).toNatClampNeg * (((gm (7 * e + 4)).toNatClampNeg + 7) / 8)
def stM (gm : Nat → Int32) : Nat → Nat
  | 0 => 0
  | e + 1 => stM gm e + byM gm e
def recM (gm gs : Nat → Int32) (e : Nat) : gRec := (gm (7 * e), gm (7 * e + 1), gm (7 * e + 2), gm (7 * e + 3), gm (7 * e + 4), gm (7 * e + 5), gm (7 * e + 6), fun p q => decide (p < (gm (7 * e + 4)).toNatClampNeg ∧ q < (gm (7 * e + 5)).toNatClampNeg) && bitM gs (gm (7 * e + 4)).toNatClampNeg (stM gm e) p q)
def gwM (n u : Nat) (gm gs : Nat → Int32) : Prop := n ≤ 256 ∧ u = stM gm n ∧ u ≤ 16384 ∧ by8 20000 gs ∧ ∀ e, e < n → ∃ (lf tp : Int) (W Dp st : Nat), gyM gm e lf tp W Dp st ∧ gyB lf tp W Dp st
theorem byM_rec (gm gs : Nat → Int32) (e : Nat) : byM gm e = byR (recM gm gs e) := rfl
theorem stM_mono (gm : Nat → Int32) {i : Nat} : ∀ {j : Nat}, i ≤ j → stM gm i ≤ stM gm j := by
  intro j
  induction j with
  | zero => intro h; have : i = 0 := by omega
            subst this; exact Nat.le_refl _
  | succ j ih =>
    intro h
    by_cases q : i = j + 1
    · subst q; exact Nat.le_refl _
    · have := ih (by omega)
      show stM gm i ≤ stM gm j + byM gm j; omega
theorem stM_sum (gm gs : Nat → Int32) : ∀ n, stM gm n = bySum (lst (recM gm gs) n) := by
  intro n
  induction n with
  | zero => rfl
  | succ n ih =>
    rw [lst_succ]
    show stM gm n + byM gm n = _
    unfold bySum at *
    rw [List.map_append, List.sum_append, ← ih]; rfl
theorem gm_by {N n u e : Nat} {o : ob_mShelf} {gm gs : Nat → Int32} (h : gwM n u gm gs) (he : e < n) : ex_mShelf_bytesOf N o gm (nI e) = some (nI (byM gm e)) ∧ byM gm e ≤ 2048 := by
  obtain ⟨h1, h2, h3, h4, h5⟩ := h
  obtain ⟨lf, tp, W, Dp, st, ⟨y2, y3, y4, y5, y6⟩, b1, b2, b3, b4, b5, b6, b7⟩ := h5 e he
  have hb : Dp * ((W + 7) / 8) ≤ 128 * 16 := Nat.mul_le_mul b6 (by omega)
  have eb : byM gm e = Dp * ((W + 7) / 8) := by unfold byM; rw [y4, y5, nI_clamp (by omega), nI_clamp (by omega)]
  have l_ : ∀ j, j < 7 → dk_in (7 * nI e + nI j) 1799 ∧ (7 * nI e + nI j).toNatClampNeg = 7 * e + j := fun j hj => by rw [nI_Lmul, nI_add]; exact ⟨dk_in_nI (by omega) (by omega), nI_clamp (by omega)⟩
  have l4 : dk_in (7 * nI e + 4) 1799 := (l_ 4 (by omega)).1
  have l5 : dk_in (7 * nI e + 5) 1799 := (l_ 5 (by omega)).1
  have v4 : (7 * nI e + 4).toNatClampNeg = 7 * e + 4 := (l_ 4 (by omega)).2
  have v5 : (7 * nI e + 5).toNatClampNeg = 7 * e + 5 := (l_ 5 (by omega)).2
  refine ⟨?_, by omega⟩
  unfold ex_mShelf_bytesOf
  rw [if_pos l5, if_pos l4, v4, v5, y4, y5, eb, dk_let]
  have : (nI W + 7) / 8 = nI ((W + 7) / 8) := by rw [nI_addL]; exact nI_div (b := 8) (by omega) (by omega)
  rw [this, nI_mul]
theorem gm_start {N n u e : Nat} {o : ob_mShelf} {gm gs : Nat → Int32} (hN : 1000 < N) (h : gwM n u gm gs) (he : e ≤ n) : ex_mShelf_startOf N o gm (nI e) = some (nI (stM gm e)) := by
  have h' := h
  obtain ⟨h1, h2, h3, h4, h5⟩ := h'
  have lp : ∀ (m fu k : Nat), e - k = m → m < fu → k ≤ e → lp_mShelf_startOf_4 N o gm (nI e) fu (nI k) (nI (stM gm k)) = some (nI (stM gm e)) := by
    intro m
    induction m with
    | zero =>
      intro fu k hm hf hk
      obtain ⟨fu, rfl⟩ : ∃ z, fu = z + 1 := ⟨fu - 1, by omega⟩
      have : k = e := by omega
      subst this
      rw [lp_mShelf_startOf_4, if_pos (nI_le (Nat.le_refl _) (by omega))]
    | succ m ih =>
      intro fu k hm hf hk
      obtain ⟨fu, rfl⟩ : ∃ z, fu = z + 1 := ⟨fu - 1, by omega⟩
      rw [lp_mShelf_startOf_4, if_neg (nI_ge (by omega) (by omega)), (gm_by (N := N) (o := o) h (show k < n by omega)).1]
      simp only [Option.bind_some, nI_add, nI_1]
      exact ih fu (k + 1) (by omega) (by omega) (by omega)
  unfold ex_mShelf_startOf
  have l0 : lp_mShelf_startOf_4 N o gm (nI e) N 0 0 = some (nI (stM gm e)) := lp e N 0 rfl (by omega) (by omega)
  rw [l0]; rfl
theorem gm_black {N n u e p q : Nat} {o : ob_mShelf} {gm gs : Nat → Int32} (hN : 1000 < N) (h : gwM n u gm gs) (he : e < n) (hp : p < (gm (7 * e + 4)).toNatClampNeg) (hq : q < (gm (7 * e + 5)).toNatClampNeg) : ex_mShelf_isBlack N o gm gs (nI e) (nI p) (nI q) = some (nI (bitM gs (gm (7 * e + 4)).toNatClampNeg (stM gm e) p q).toNat) := by
  have h' := h
  obtain ⟨h1, h2, h3, h4, h5⟩ := h'
  obtain ⟨lf, tp, W, Dp, st, ⟨y2, y3, y4, y5, y6⟩, b1, b2, b3, b4, b5, b6, b7⟩ := h5 e he
  have hb : Dp * ((W + 7) / 8) ≤ 128 * 16 := Nat.mul_le_mul b6 (by omega)
  have eb : byM gm e = Dp * ((W + 7) / 8) := by unfold byM; rw [y4, y5, nI_clamp (by omega), nI_clamp (by omega)]
  have hst : stM gm e + byM gm e ≤ u := by rw [h2]; exact stM_mono gm (show e + 1 ≤ n by omega)
  rw [y4, nI_clamp (by omega)] at hp ⊢
  rw [y5, nI_clamp (by omega)] at hq
  have hr : q * ((W + 7) / 8) + p / 8 < Dp * ((W + 7) / 8) := by
    have : (q + 1) * ((W + 7) / 8) ≤ Dp * ((W + 7) / 8) := Nat.mul_le_mul_right _ hq
    rw [Nat.succ_mul] at this; omega
  have e4 : 7 * nI e + 4 = nI (7 * e + 4) := by rw [nI_Lmul, nI_addL]
  have e7 : (nI W + 7) / 8 = nI ((W + 7) / 8) := by rw [nI_addL]; exact nI_div (b := 8) (by omega) (by omega)
  have e8 : nI p / 8 = nI (p / 8) := nI_div (b := 8) (by omega) (by omega)
  have em : nI p - nI p / 8 * 8 = nI (p % 8) := nI_mod (b := 8) (by omega) (by omega)
  have ey : nI (stM gm e) + nI ((W + 7) / 8) * nI q + nI (p / 8) = nI (stM gm e + q * ((W + 7) / 8) + p / 8) := by rw [nI_mul, nI_add, nI_add, Nat.mul_comm]
  have e77 : (7 : Int32) - nI (p % 8) = nI (7 - p % 8) := nI_sub (a := 7) (by omega)
  unfold ex_mShelf_isBlack
  rw [e4, if_pos (dk_in_nI (by omega) (by omega)), gm_start hN h (by omega), nI_clamp (by omega), y4, e7]
  simp only [Option.bind_some]
  rw [em, e8, ey, e77]
  simp only [dk_let]
  rw [if_pos (dk_in_nI (by omega) (by omega)), nI_clamp (by omega), i32_bit _ (by omega)]
  unfold bitM
  cases (u8 (gs (stM gm e + q * ((W + 7) / 8) + p / 8))).testBit (7 - p % 8) with
  | true => rw [if_pos (show nI (true).toNat = 1 from rfl)]; rfl
  | false => rw [if_neg (show ¬ nI (false).toNat = 1 by decide)]; rfl
theorem gm_go {N n u e : Nat} {o : ob_mShelf} {gm gs : Nat → Int32} (hN : 30000 < N) (h : gwM (n + 1) u gm gs) (he : e < n + 1) (ho1 : fd_mShelf_glyphs o = nI (n + 1)) (ho2 : fd_mShelf_used o = nI u) :
    ∃ gm' gs', ex_mShelf_goGlyph N o gm gs (nI e) = some (fs_mShelf_used (fs_mShelf_glyphs o (nI n)) (nI (u - byM gm e)), gm', gs') ∧ gwM n (u - byM gm e) gm' gs' ∧ ∀ i, i < n → recM gm' gs' i = if i < e then recM gm gs i else recM gm gs (i + 1) := by
  have h' := h
  obtain ⟨h1, h2, h3, h4, h5⟩ := h'
  obtain ⟨st_, hst_⟩ : ∃ st_, st_ = stM gm e := ⟨_, rfl⟩
  obtain ⟨by_, hby_⟩ : ∃ by_, by_ = byM gm e := ⟨_, rfl⟩
  have hby2 := (gm_by (N := N) (o := o) h he).2
  have hse : st_ + by_ = stM gm (e + 1) := by rw [hst_, hby_]; rfl
  have hsu : st_ + by_ ≤ u := by rw [hse, h2]; exact stM_mono gm (show e + 1 ≤ n + 1 by omega)
  have l1 : ∀ (m fu t : Nat), u - by_ - st_ - t = m → m < fu → st_ + t ≤ u - by_ → lp_mShelf_goGlyph_17 o (nI by_) fu (nI (st_ + by_ + t)) (shb gs st_ by_ (st_ + t)) = some (shb gs st_ by_ (u - by_)) := by
    intro m
    induction m with
    | zero =>
      intro fu t hm hf ht
      obtain ⟨fu, rfl⟩ : ∃ z, fu = z + 1 := ⟨fu - 1, by omega⟩
      have : st_ + t = u - by_ := by omega
      rw [lp_mShelf_goGlyph_17, ho2, if_pos (nI_le (by omega) (by omega)), this]
    | succ m ih =>
      intro fu t hm hf ht
      obtain ⟨fu, rfl⟩ : ∃ z, fu = z + 1 := ⟨fu - 1, by omega⟩
      have es : nI (st_ + by_ + t) - nI by_ = nI (st_ + t) := by rw [nI_sub (by omega)]; congr 1; omega
      have hv : shb gs st_ by_ (st_ + t) (st_ + by_ + t) = gs (st_ + t + by_) := by unfold shb; rw [if_neg (by omega)]; congr 1; omega
      have h8 : vp_nar .byte (gs (st_ + t + by_)) = gs (st_ + t + by_) := is8_vp (h4 _ (by omega))
      rw [lp_mShelf_goGlyph_17, ho2, if_neg (nI_ge (by omega) (by omega)), if_pos (dk_in_nI (by omega) (by omega)), es, if_pos (dk_in_nI (by omega) (by omega)), nI_clamp (by omega), nI_clamp (by omega), hv, h8, shb_step _ (by omega), nI_1]
      simp only [dk_let]
      exact ih fu (t + 1) (by omega) (by omega) (by omega)
  have eg : fd_mShelf_glyphs o - 1 = nI n := by rw [ho1]; exact (nI_sub (a := n + 1) (b := 1) (by omega)).trans (by congr 1)
  have l2 : ∀ (m fu w : Nat), 7 * n - w = m → m < fu → 7 * e ≤ w → w ≤ 7 * n → lp_mShelf_goGlyph_74c2 o fu (nI w) (shb gm (7 * e) 7 w) = some (shb gm (7 * e) 7 (7 * n)) := by
    intro m
    induction m with
    | zero =>
      intro fu w hm hf hw hw2
      obtain ⟨fu, rfl⟩ : ∃ z, fu = z + 1 := ⟨fu - 1, by omega⟩
      have : w = 7 * n := by omega
      subst this
      rw [lp_mShelf_goGlyph_74c2, eg, nI_Lmul, if_pos (nI_le (Nat.le_refl _) (by omega))]
    | succ m ih =>
      intro fu w hm hf hw hw2
      obtain ⟨fu, rfl⟩ : ∃ z, fu = z + 1 := ⟨fu - 1, by omega⟩
      have e7 : nI w + 7 = nI (w + 7) := nI_addL w 7
      have hv : shb gm (7 * e) 7 w (w + 7) = gm (w + 7) := by unfold shb; rw [if_neg (by omega)]
      rw [lp_mShelf_goGlyph_74c2, eg, nI_Lmul, if_neg (nI_ge (show w < 7 * n by omega) (by omega)), e7, if_pos (dk_in_nI (by omega) (by omega)), if_pos (dk_in_nI (by omega) (by omega)), nI_clamp (by omega), nI_clamp (by omega), hv, shb_step _ hw, nI_1]
      simp only [dk_let]
      exact ih fu (w + 1) (by omega) (by omega) (by omega) (by omega)
  obtain ⟨gm', hgm'⟩ : ∃ gm', gm' = shb gm (7 * e) 7 (7 * n) := ⟨_, rfl⟩
  obtain ⟨gs', hgs'⟩ : ∃ gs', gs' = shb gs st_ by_ (u - by_) := ⟨_, rfl⟩
  have sh0 : ∀ (f : Nat → Int32) a d, shb f a d a = f := fun f a d => by funext i; unfold shb; rw [if_neg (by omega)]
  have l1' := l1 (u - by_ - st_) N 0 rfl (by omega) (by omega)
  rw [Nat.add_zero, Nat.add_zero, sh0, ← hgs'] at l1'
  have gj : ∀ i j, j < 7 → i < n → gm' (7 * i + j) = gm (7 * (if i < e then i else i + 1) + j) := by
    intro i j hj hi
    rw [hgm']; unfold shb
    by_cases q : i < e
    · rw [if_neg (by omega), if_pos q]
    · rw [if_pos (by omega), if_neg q]; congr 1; omega
  have hbs : ∀ i, i < n → byM gm' i = byM gm (if i < e then i else i + 1) := by
    intro i hi; unfold byM; rw [gj i 5 (by omega) hi, gj i 4 (by omega) hi]
  have hss : ∀ i, i ≤ n → stM gm' i = if i ≤ e then stM gm i else stM gm (i + 1) - by_ := by
    intro i
    induction i with
    | zero => intro _; rw [if_pos (by omega)]; rfl
    | succ i ih =>
      intro hi
      show stM gm' i + byM gm' i = _
      rw [ih (by omega), hbs i (by omega)]
      have hsi : st_ + by_ ≤ stM gm (i + 1) ∨ i < e := by
        by_cases q : i < e
        · exact Or.inr q
        · left; rw [hse]; exact stM_mono gm (by omega)
      by_cases q : i + 1 ≤ e
      · rw [if_pos (by omega), if_pos q, if_pos (by omega)]; rfl
      · rw [if_neg q, if_neg (show ¬ i < e by omega)]
        have es2 : stM gm (i + 1 + 1) = stM gm (i + 1) + byM gm (i + 1) := rfl
        by_cases q2 : i = e
        · subst q2; rw [if_pos (Nat.le_refl _), es2, ← hse, ← hst_]; omega
        · rw [if_neg (by omega), es2]; omega
  refine ⟨gm', gs', ?_, ⟨by omega, ?_, by omega, ?_, ?_⟩, ?_⟩
  · unfold ex_mShelf_goGlyph
    rw [gm_start (by omega) h (by omega), (gm_by (N := N) (o := o) h he).1, ← hst_, ← hby_]
    simp only [Option.bind_some]
    have l2' : lp_mShelf_goGlyph_74c2 o N (7 * nI e) gm = some gm' := by
      have := l2 (7 * n - 7 * e) N (7 * e) rfl (by omega) (Nat.le_refl _) (by omega)
      rw [sh0, ← hgm'] at this
      rw [nI_Lmul]; exact this
    rw [nI_add, l1']
    simp only [Option.bind_some]
    rw [l2']
    simp only [Option.bind_some]
    rw [eg, ho2, nI_sub (by omega)]
  · rw [hss n (Nat.le_refl _), ← hby_]
    by_cases q : n ≤ e
    · have : e = n := by omega
      subst this
      rw [if_pos (Nat.le_refl _), ← hst_, h2, ← hse]; omega
    · rw [if_neg q, h2]
  · intro i hi
    rw [hgs']; unfold shb
    split
    · exact h4 _ (by omega)
    · exact h4 _ hi
  · intro i hi
    obtain ⟨lf, tp, W, Dp, st, ⟨y2, y3, y4, y5, y6⟩, hb⟩ := h5 (if i < e then i else i + 1) (by split <;> omega)
    exact ⟨lf, tp, W, Dp, st, ⟨(gj i 2 (by omega) hi).trans y2, (gj i 3 (by omega) hi).trans y3, (gj i 4 (by omega) hi).trans y4, (gj i 5 (by omega) hi).trans y5, (gj i 6 (by omega) hi).trans y6⟩, hb⟩
  · intro i hi
    obtain ⟨s, hs⟩ : ∃ s, s = if i < e then i else i + 1 := ⟨_, rfl⟩
    have hsn : s < n + 1 := by rw [hs]; split <;> omega
    have hrec : recM gm' gs' i = recM gm gs s := by
      obtain ⟨lf, tp, W, Dp, st, ⟨y2, y3, y4, y5, y6⟩, b1, b2, b3, b4, b5, b6, b7⟩ := h5 s hsn
      have hb : Dp * ((W + 7) / 8) ≤ 128 * 16 := Nat.mul_le_mul b6 (by omega)
      have eb : byM gm s = Dp * ((W + 7) / 8) := by unfold byM; rw [y4, y5, nI_clamp (by omega), nI_clamp (by omega)]
      have g0 : gm' (7 * i) = gm (7 * s) := by rw [hs]; exact gj i 0 (by omega) hi
      have g_ : ∀ j, j < 7 → gm' (7 * i + j) = gm (7 * s + j) := fun j hj => by rw [hs]; exact gj i j hj hi
      unfold recM
      rw [g0, g_ 1 (by omega), g_ 2 (by omega), g_ 3 (by omega), g_ 4 (by omega), g_ 5 (by omega), g_ 6 (by omega)]
      congr 7
      funext p q
      rw [y4, y5, nI_clamp (by omega), nI_clamp (by omega)]
      by_cases hpq : p < W ∧ q < Dp
      · rw [decide_eq_true hpq, Bool.true_and, Bool.true_and]
        have hr : q * ((W + 7) / 8) + p / 8 < Dp * ((W + 7) / 8) := by
          have : (q + 1) * ((W + 7) / 8) ≤ Dp * ((W + 7) / 8) := Nat.mul_le_mul_right _ hpq.2
          rw [Nat.succ_mul] at this; omega
        have hsl : stM gm s + byM gm s ≤ u := by rw [h2]; exact stM_mono gm (show s + 1 ≤ n + 1 by omega)
        unfold bitM
        congr 2
        rw [hgs', hss i (by omega)]
        unfold shb
        by_cases q2 : i < e
        · have hse2 : s = i := by rw [hs, if_pos q2]
          have : stM gm i + byM gm i ≤ st_ := by rw [hst_]; exact stM_mono gm (show i + 1 ≤ e by omega)
          rw [hse2] at eb ⊢
          have hst2 : (if i ≤ e then stM gm i else stM gm (i + 1) - by_) = stM gm i := if_pos (by omega)
          rw [hst2, if_neg (by omega)]
        · have hse2 : s = i + 1 := by rw [hs, if_neg q2]
          have hlow : st_ + by_ ≤ stM gm s := by rw [hse, hse2]; exact stM_mono gm (by omega)
          have hst2 : (if i ≤ e then stM gm i else stM gm (i + 1) - by_) = stM gm s - by_ := by
            by_cases q3 : i = e
            · subst q3; rw [if_pos (Nat.le_refl _), hse2, ← hse, ← hst_]; omega
            · rw [if_neg (by omega), hse2]
          rw [hst2, if_pos (by omega)]; congr 1; omega
      · rw [decide_eq_false hpq, Bool.false_and, Bool.false_and]
    rw [hrec, hs]
    split <;> rfl
/-- the class's glyphs, with their number and their bytes -/
def gC (n u : Nat) (gg gdt : Nat → Int32) : Prop := gwC n u gg gdt ∧ u = bySum (lst (recC gg gdt) n)
theorem gC_rem {N n u c : Nat} {o : ob_FontShelf} {gg gdt : Nat → Int32} (hN : 1000 < N) (hw : gC (n + 1) u gg gdt) (hc : c < n + 1) (ho1 : fd_FontShelf_glyphCount o = nI (n + 1)) (ho2 : fd_FontShelf_used o = nI u) :
    ∃ u' gg' gdt', ex_FontShelf_removeGlyph N o gg gdt (nI c) = some (fs_FontShelf_used (fs_FontShelf_glyphCount o (nI n)) (nI u'), gg', gdt') ∧ gC n u' gg' gdt' ∧ (∀ i, i < n → recC gg' gdt' i = if i = c then recC gg gdt n else recC gg gdt i) ∧ (recC gg gdt c :: lst (recC gg' gdt') n).Perm (lst (recC gg gdt) (n + 1)) := by
  obtain ⟨gg', gdt', e1, e2, e3⟩ := fs_rem (N := N) hN hw.1 hc ho1 ho2
  have hp := lst_swap (recC gg gdt) (recC gg' gdt') n c hc e3
  have hs := bySum_perm hp
  rw [bySum_cons, ← hw.2, ← (gwC_at hw.1 hc).2.2.2] at hs
  exact ⟨u - bC gg c, gg', gdt', e1, ⟨e2, by omega⟩, e3, hp⟩
theorem gM_rem {N n u e : Nat} {o : ob_mShelf} {gm gs : Nat → Int32} (hN : 30000 < N) (h : gwM (n + 1) u gm gs) (he : e < n + 1) (ho1 : fd_mShelf_glyphs o = nI (n + 1)) (ho2 : fd_mShelf_used o = nI u) :
    ∃ u' gm' gs', ex_mShelf_goGlyph N o gm gs (nI e) = some (fs_mShelf_used (fs_mShelf_glyphs o (nI n)) (nI u'), gm', gs') ∧ gwM n u' gm' gs' ∧ (∀ i, i < n → recM gm' gs' i = if i < e then recM gm gs i else recM gm gs (i + 1)) ∧ (recM gm gs e :: lst (recM gm' gs') n).Perm (lst (recM gm gs) (n + 1)) := by
  obtain ⟨gm', gs', e1, e2, e3⟩ := gm_go (N := N) hN h he ho1 ho2
  exact ⟨_, gm', gs', e1, e2, e3, lst_shift _ _ n e he e3⟩
theorem iI_m1 (w : Nat) : iI ((w : Int) - 1) + (-1) = iI (((w : Int) - 1) - 1) := by
  have : (-1 : Int32) = iI (-1) := by decide
  rw [this, iI_add]; rfl
/-- all glyphs of a font go, in the class -/
theorem fs_own {N s : Nat} {k : Int32} {ids : Nat → Int32} (hN : 1000 < N) (hs : s < 32) (hk : ids s = k) : ∀ (w fu n u : Nat) (o : ob_FontShelf) (gg gdt : Nat → Int32), w < fu → w ≤ n → gC n u gg gdt → fd_FontShelf_glyphCount o = nI n → fd_FontShelf_used o = nI u → (∀ i, w ≤ i → i < n → ow (recC gg gdt i) ≠ k) →
    ∃ n' u' gg' gdt', lp_FontShelf_removeFont_29 N ids (nI s) fu (iI ((w : Int) - 1)) o gg gdt = some (fs_FontShelf_used (fs_FontShelf_glyphCount o (nI n')) (nI u'), gg', gdt') ∧ gC n' u' gg' gdt' ∧ (lst (recC gg' gdt') n').Perm ((lst (recC gg gdt) n).filter (fun y => !decide (ow y = k))) := by
  intro w
  induction w with
  | zero =>
    intro fu n u o gg gdt hf hw hg ho1 ho2 h
    obtain ⟨fu, rfl⟩ : ∃ z, fu = z + 1 := ⟨fu - 1, by omega⟩
    refine ⟨n, u, gg, gdt, ?_, hg, ?_⟩
    · rw [lp_FontShelf_removeFont_29, if_pos (show iI (((0 : Nat) : Int) - 1) < 0 by decide), ← ho1, ← ho2]
    · rw [fl_all (fun z hz => by obtain ⟨i, hi, rfl⟩ := lst_mem.mp hz; exact h i (by omega) hi)]
  | succ w ih =>
    intro fu n u o gg gdt hf hw hg ho1 ho2 h
    obtain ⟨fu, rfl⟩ : ∃ z, fu = z + 1 := ⟨fu - 1, by omega⟩
    obtain ⟨n, rfl⟩ : ∃ z, n = z + 1 := ⟨n - 1, by omega⟩
    have hn := hg.1.1
    have ew : iI (((w + 1 : Nat) : Int) - 1) = nI w := by rw [nI_iI]; congr 1; omega
    have em : nI w + (-1) = iI ((w : Int) - 1) := by
      have : (-1 : Int32) = iI (-1) := by decide
      rw [nI_iI, this, iI_add]; rfl
    have o0 : ex_FontShelf_ofGlyph N o gg (nI w) 0 = some (gg (9 * w)) := fs_of (j := 0) (by omega)
    have hin : dk_in (nI s) 32 := dk_in_nI hs (by omega)
    rw [lp_FontShelf_removeFont_29, ew, if_neg (nI_pos (by omega)), o0]
    simp only [Option.bind_some]
    rw [if_pos hin, em]
    have hcl : ids (nI s).toNatClampNeg = k := by rw [nI_clamp (by omega)]; exact hk
    by_cases q : gg (9 * w) = k
    · rw [if_pos (show gg (9 * w) = ids (nI s).toNatClampNeg by rw [hcl]; exact q)]
      obtain ⟨u', gg', gdt', e1, e2, e3, e4⟩ := gC_rem (N := N) hN hg (show w < n + 1 by omega) ho1 ho2
      rw [e1]
      simp only [Option.bind_some]
      obtain ⟨n2, u2, gg2, gdt2, r1, r2, r3⟩ := ih fu n u' (fs_FontShelf_used (fs_FontShelf_glyphCount o (nI n)) (nI u')) gg' gdt' (by omega) (by omega) e2 rfl rfl (fun i hi hi2 => by
        rw [e3 i hi2]
        by_cases qi : i = w
        · rw [if_pos qi]; exact h n (by omega) (by omega)
        · rw [if_neg qi]; exact h i (by omega) (by omega))
      exact ⟨n2, u2, gg2, gdt2, r1, r2, r3.trans (fl_rem e4 q)⟩
    · rw [if_neg (show ¬ gg (9 * w) = ids (nI s).toNatClampNeg by rw [hcl]; exact q)]
      exact ih fu (n + 1) u o gg gdt (by omega) (by omega) hg ho1 ho2 (fun i hi hi2 => by
        by_cases qi : i = w
        · subst qi; exact q
        · exact h i (by omega) hi2)
theorem ms_own {N s : Nat} {k : Int32} {ids : Nat → Int32} (hN : 30000 < N) (hs : s < 33) (hk : ids s = k) : ∀ (w fu n u : Nat) (o : ob_mShelf) (gm gs : Nat → Int32), w < fu → w ≤ n → gwM n u gm gs → fd_mShelf_glyphs o = nI n → fd_mShelf_used o = nI u → (∀ i, w ≤ i → i < n → ow (recM gm gs i) ≠ k) →
    ∃ n' u' gm' gs', lp_mShelf_goFont_7 N ids (nI s) fu (iI ((w : Int) - 1)) o gm gs = some (fs_mShelf_used (fs_mShelf_glyphs o (nI n')) (nI u'), gm', gs') ∧ gwM n' u' gm' gs' ∧ (lst (recM gm' gs') n').Perm ((lst (recM gm gs) n).filter (fun y => !decide (ow y = k))) := by
  intro w
  induction w with
  | zero =>
    intro fu n u o gm gs hf hw hg ho1 ho2 h
    obtain ⟨fu, rfl⟩ : ∃ z, fu = z + 1 := ⟨fu - 1, by omega⟩
    refine ⟨n, u, gm, gs, ?_, hg, ?_⟩
    · rw [lp_mShelf_goFont_7, if_pos (show iI (((0 : Nat) : Int) - 1) < 0 by decide), ← ho1, ← ho2]
    · rw [fl_all (fun z hz => by obtain ⟨i, hi, rfl⟩ := lst_mem.mp hz; exact h i (by omega) hi)]
  | succ w ih =>
    intro fu n u o gm gs hf hw hg ho1 ho2 h
    obtain ⟨fu, rfl⟩ : ∃ z, fu = z + 1 := ⟨fu - 1, by omega⟩
    obtain ⟨n, rfl⟩ : ∃ z, n = z + 1 := ⟨n - 1, by omega⟩
    have hn := hg.1
    have ew : iI (((w + 1 : Nat) : Int) - 1) = nI w := by rw [nI_iI]; congr 1; omega
    have em : nI w + (-1) = iI ((w : Int) - 1) := by
      have : (-1 : Int32) = iI (-1) := by decide
      rw [nI_iI, this, iI_add]; rfl
    have hin : dk_in (nI s) 33 := dk_in_nI hs (by omega)
    have hcl : ids (nI s).toNatClampNeg = k := by rw [nI_clamp (by omega)]; exact hk
    have hcw : (nI (7 * w)).toNatClampNeg = 7 * w := nI_clamp (by omega)
    rw [lp_mShelf_goFont_7, ew, if_neg (nI_pos (by omega)), nI_Lmul, if_pos (dk_in_nI (by omega) (by omega)), if_pos hin, em]
    by_cases q : gm (7 * w) = k
    · rw [if_pos (show gm (nI (7 * w)).toNatClampNeg = ids (nI s).toNatClampNeg by rw [hcl, hcw]; exact q)]
      obtain ⟨u', gm', gs', e1, e2, e3, e4⟩ := gM_rem (N := N) hN hg (show w < n + 1 by omega) ho1 ho2
      rw [e1]
      simp only [Option.bind_some]
      obtain ⟨n2, u2, gm2, gs2, r1, r2, r3⟩ := ih fu n u' (fs_mShelf_used (fs_mShelf_glyphs o (nI n)) (nI u')) gm' gs' (by omega) (by omega) e2 rfl rfl (fun i hi hi2 => by
        rw [e3 i hi2, if_neg (by omega)]; exact h (i + 1) (by omega) (by omega))
      exact ⟨n2, u2, gm2, gs2, r1, r2, r3.trans (fl_rem e4 q)⟩
    · rw [if_neg (show ¬ gm (nI (7 * w)).toNatClampNeg = ids (nI s).toNatClampNeg by rw [hcl, hcw]; exact q)]
      exact ih fu (n + 1) u o gm gs (by omega) (by omega) hg ho1 ho2 (fun i hi hi2 => by
        by_cases qi : i = w
        · subst qi; exact q
        · exact h i (by omega) hi2)
def okA (a : Nat) (x : Int32) : Prop := (if a = 5 then -7 else if a = 2 ∨ a = 3 then 1 else 0) ≤ x.toInt ∧ x.toInt ≤ (([2047, 1, 57600, 99999, 32767, 7, 65535] : List Int).getD a 0)
/-- the shelves of both sides, but for wishes -/
def slK (F n u : Nat) (ic pc ac gg gdt im pm am gm gs : Nat → Int32) : Prop := F ≤ 32 ∧ agree F ic im ∧ agree F pc pm ∧ bo1 F pc ∧ agree (7 * F) ac am ∧ (∀ f a, f < F → a < 7 → okA a (ac (7 * f + a))) ∧ (∀ f f', f < F → f' < F → ic f = ic f' → f = f') ∧ gC n u gg gdt ∧ gwM n u gm gs ∧ (lst (recC gg gdt) n).Perm (lst (recM gm gs) n) ∧ ((lst (recC gg gdt) n).map ky).Nodup ∧ (∀ i, i < n → ∃ f, f < F ∧ ic f = ow (recC gg gdt i))
theorem agree_shf {n s : Nat} {f g : Nat → Int32} (h : agree (n + 1) f g) : agree n (shf f s n) (shf g s n) := fun i hi => by
  unfold shf; split
  · exact h (i + 1) (by omega)
  · exact h i (by omega)
theorem agree_shb7 {n s : Nat} {f g : Nat → Int32} (h : agree (7 * (n + 1)) f g) : agree (7 * n) (shb f (7 * s) 7 (7 * n)) (shb g (7 * s) 7 (7 * n)) := fun i hi => by
  unfold shb; split
  · exact h (i + 7) (by omega)
  · exact h i (by omega)
theorem bo_nar {x : Int32} (h : x = 0 ∨ x = 1) : vp_nar .boolean x = x := by rcases h with rfl | rfl <;> rfl
/-- the fonts behind one move up, in the class -/
theorem fs_lmove {F s : Nat} {o : ob_FontShelf × (Nat → Int32) × (Nat → Int32)} {ic pc ac : Nat → Int32} (hF : F + 1 ≤ 32) (ho : fd_FontShelf_fonts o.1 = nI (F + 1)) (hb : bo1 (F + 1) pc) : ∀ (m fu w : Nat), F - w = m → m < fu → s ≤ w → w ≤ F →
    lp_FontShelf_removeFont_63c2 o fu (nI (w + 1)) (shf ic s w) (shf pc s w) (shb ac (7 * s) 7 (7 * w)) = some (shf ic s F, shf pc s F, shb ac (7 * s) 7 (7 * F)) := by
  intro m
  induction m with
  | zero =>
    intro fu w hm hf hs hw
    obtain ⟨fu, rfl⟩ : ∃ z, fu = z + 1 := ⟨fu - 1, by omega⟩
    have : w = F := by omega
    subst this
    rw [lp_FontShelf_removeFont_63c2, ho, if_pos (nI_le (Nat.le_refl _) (by omega))]
  | succ m ih =>
    intro fu w hm hf hs hw
    obtain ⟨fu, rfl⟩ : ∃ z, fu = z + 1 := ⟨fu - 1, by omega⟩
    have e1 : nI (w + 1) - 1 = nI w := (nI_sub (a := w + 1) (b := 1) (by omega)).trans (by congr 1)
    have e7 : nI (w + 1) * 7 = nI (7 * (w + 1)) := by have h9 := nI_mul (w + 1) 7; rw [Nat.mul_comm] at h9; exact h9
    have e7' : nI w * 7 = nI (7 * w) := by have h9 := nI_mul w 7; rw [Nat.mul_comm] at h9; exact h9
    have hcp : dk_cp (nI (7 * (w + 1))) (nI (7 * w)) (nI 7) 224 224 = True := dk_cpT (by omega) (by omega) (by omega) (by omega)
    have hcp' : dk_cp (nI (7 * (w + 1))) (nI (7 * w)) (7 : Int32) 224 224 := of_eq_true hcp
    have hc : va_cpy (shb ac (7 * s) 7 (7 * w)) (shb ac (7 * s) 7 (7 * w)) (7 * (w + 1)) (7 * w) 7 = shb ac (7 * s) 7 (7 * (w + 1)) := by
      funext i
      unfold va_cpy shb
      by_cases q : 7 * w ≤ i ∧ i < 7 * w + 7
      · rw [if_pos q, if_neg (by omega), if_pos (by omega)]; congr 1; omega
      · rw [if_neg q]
        by_cases q2 : 7 * s ≤ i ∧ i < 7 * w
        · rw [if_pos q2, if_pos (by omega)]
        · rw [if_neg q2, if_neg (by omega)]
    have i1 : dk_in (nI (w + 1)) 32 := dk_in_nI (by omega) (by omega)
    have i2 : dk_in (nI w) 32 := dk_in_nI (by omega) (by omega)
    have k1 : (nI (w + 1)).toNatClampNeg = w + 1 := nI_clamp (by omega)
    have k2 : (nI w).toNatClampNeg = w := nI_clamp (by omega)
    rw [lp_FontShelf_removeFont_63c2, ho, if_neg (nI_ge (by omega) (by omega)), if_neg (show ¬ (32 : Int32) ≤ nI (w + 1) from nI_ge (b := 32) (by omega) (by omega)), e1, if_pos i1, if_pos i2]
    simp only [dk_let]
    rw [if_pos i1, if_pos i2, e7, e7', if_pos hcp', k1, k2, shf_top, shf_top, bo_nar (hb _ (by omega)), shf_step _ hs, shf_step _ hs]
    show lp_FontShelf_removeFont_63c2 o fu (nI (w + 1) + 1) _ _ (va_cpy _ _ (nI (7 * (w + 1))).toNatClampNeg (nI (7 * w)).toNatClampNeg (nI 7).toNatClampNeg) = _
    rw [nI_clamp (show 7 * (w + 1) < 2 ^ 31 by omega), nI_clamp (show 7 * w < 2 ^ 31 by omega), nI_clamp (show 7 < 2 ^ 31 by omega), hc, nI_1]
    exact ih fu (w + 1) (by omega) (by omega) (by omega) (by omega)
theorem ms_lmove7 {w : Nat} (hw : w < 32) (f : Nat → Int32) {s : Nat} (hs : s ≤ w) : ∀ (m fu j : Nat), 7 - j = m → m < fu → j ≤ 7 → lp_mShelf_goFont_90f5 (nI w) fu (nI j) (shb f (7 * s) 7 (7 * w + j)) = some (shb f (7 * s) 7 (7 * (w + 1))) := by
  intro m
  induction m with
  | zero =>
    intro fu j hm hf hj
    obtain ⟨fu, rfl⟩ : ∃ z, fu = z + 1 := ⟨fu - 1, by omega⟩
    have : j = 7 := by omega
    subst this
    rw [lp_mShelf_goFont_90f5, if_pos (show (7 : Int32) ≤ nI 7 by decide)]; rfl
  | succ m ih =>
    intro fu j hm hf hj
    obtain ⟨fu, rfl⟩ : ∃ z, fu = z + 1 := ⟨fu - 1, by omega⟩
    have e1 : 7 * nI w + 7 + nI j = nI (7 * w + j + 7) := by rw [nI_Lmul, nI_addL, nI_add]; congr 1; show 7 * w + 7 + j = _; omega
    have e2 : 7 * nI w + nI j = nI (7 * w + j) := by rw [nI_Lmul, nI_add]
    have hv : shb f (7 * s) 7 (7 * w + j) (7 * w + j + 7) = f (7 * w + j + 7) := by unfold shb; rw [if_neg (by omega)]
    rw [lp_mShelf_goFont_90f5, if_neg (show ¬ (7 : Int32) ≤ nI j from nI_ge (b := 7) (by omega) (by omega)), e1, e2, if_pos (dk_in_nI (by omega) (by omega)), if_pos (dk_in_nI (by omega) (by omega)), nI_clamp (by omega), nI_clamp (by omega), hv, shb_step _ (by omega), nI_1]
    simp only [dk_let]
    exact ih fu (j + 1) (by omega) (by omega) (by omega)
theorem ms_lmove {N F s : Nat} {o : ob_mShelf × (Nat → Int32) × (Nat → Int32)} {im pm am : Nat → Int32} (hN : 100 < N) (hF : F + 1 ≤ 32) (ho : fd_mShelf_fonts o.1 = nI (F + 1)) (hb : bo1 (F + 1) pm) : ∀ (m fu w : Nat), F - w = m → m < fu → s ≤ w → w ≤ F →
    lp_mShelf_goFont_52e4 N o fu (nI w) (shf im s w) (shf pm s w) (shb am (7 * s) 7 (7 * w)) = some (shf im s F, shf pm s F, shb am (7 * s) 7 (7 * F)) := by
  have ef : fd_mShelf_fonts o.1 - 1 = nI F := by rw [ho]; exact (nI_sub (a := F + 1) (b := 1) (by omega)).trans (by congr 1)
  intro m
  induction m with
  | zero =>
    intro fu w hm hf hs hw
    obtain ⟨fu, rfl⟩ : ∃ z, fu = z + 1 := ⟨fu - 1, by omega⟩
    have : w = F := by omega
    subst this
    rw [lp_mShelf_goFont_52e4, ef, if_pos (nI_le (Nat.le_refl _) (by omega))]
  | succ m ih =>
    intro fu w hm hf hs hw
    obtain ⟨fu, rfl⟩ : ∃ z, fu = z + 1 := ⟨fu - 1, by omega⟩
    have l7 := ms_lmove7 (w := w) (by omega) am hs 7 N 0 rfl (by omega) (by omega)
    have l7' : lp_mShelf_goFont_90f5 (nI w) N 0 (shb am (7 * s) 7 (7 * w)) = some (shb am (7 * s) 7 (7 * (w + 1))) := l7
    have i1 : dk_in (nI (w + 1)) 33 := dk_in_nI (by omega) (by omega)
    have i2 : dk_in (nI w) 33 := dk_in_nI (by omega) (by omega)
    have k1 : (nI (w + 1)).toNatClampNeg = w + 1 := nI_clamp (by omega)
    have k2 : (nI w).toNatClampNeg = w := nI_clamp (by omega)
    rw [lp_mShelf_goFont_52e4, ef, if_neg (nI_ge (show w < F by omega) (by omega)), nI_1, if_pos i1, if_pos i2]
    simp only [dk_let]
    rw [if_pos i1, if_pos i2, k1, k2, shf_top, shf_top, bo_nar (hb _ (by omega)), shf_step _ hs, shf_step _ hs]
    rw [l7']
    simp only [Option.bind_some]
    exact ih fu (w + 1) (by omega) (by omega) (by omega) (by omega)
theorem shf_val {F s f : Nat} {g : Nat → Int32} (hf : f < F) : shf g s F f = g (if s ≤ f then f + 1 else f) := by
  unfold shf
  by_cases q : s ≤ f
  · rw [if_pos ⟨q, hf⟩, if_pos q]
  · rw [if_neg (fun h => q h.1), if_neg q]
theorem shb_val {F s f a : Nat} {g : Nat → Int32} (hf : f < F) (ha : a < 7) : shb g (7 * s) 7 (7 * F) (7 * f + a) = g (7 * (if s ≤ f then f + 1 else f) + a) := by
  unfold shb
  by_cases q : s ≤ f
  · rw [if_pos (by omega), if_pos q]; congr 1; omega
  · rw [if_neg (by omega), if_neg q]
/-- a font goes on both sides -/
theorem sl_font {N F n u s : Nat} {o : ob_FontShelf} {om : ob_mShelf} {ic pc ac gg gdt im pm am gm gs : Nat → Int32} (hN : 30000 < N) (h : slK (F + 1) n u ic pc ac gg gdt im pm am gm gs) (hs : s < F + 1) (o1 : fd_FontShelf_fonts o = nI (F + 1)) (o2 : fd_FontShelf_glyphCount o = nI n) (o3 : fd_FontShelf_used o = nI u) (m1 : fd_mShelf_fonts om = nI (F + 1)) (m2 : fd_mShelf_glyphs om = nI n) (m3 : fd_mShelf_used om = nI u) :
    ∃ n' u' ic' pc' ac' gg' gdt' im' pm' am' gm' gs', ex_FontShelf_removeFont N o ic gg gdt pc ac (nI s) = some (fs_FontShelf_fonts (fs_FontShelf_used (fs_FontShelf_glyphCount o (nI n')) (nI u')) (nI F), ic', gg', gdt', pc', ac') ∧ ex_mShelf_goFont N om gm im gs pm am (nI s) = some (fs_mShelf_fonts (fs_mShelf_used (fs_mShelf_glyphs om (nI n')) (nI u')) (nI F), gm', im', gs', pm', am') ∧ slK F n' u' ic' pc' ac' gg' gdt' im' pm' am' gm' gs' ∧ ic' = shf ic s F ∧ pc' = shf pc s F ∧ ac' = shb ac (7 * s) 7 (7 * F) := by
  obtain ⟨k1, k2, k3, k4, k5, k6, k7, k8, k9, k10, k11, k12⟩ := h
  have hn := k8.1.1
  obtain ⟨n1, u1, gg', gdt', e1, e2, e3⟩ := fs_own (N := N) (s := s) (k := ic s) (ids := ic) (by omega) (by omega) rfl n N n u o gg gdt (by omega) (Nat.le_refl _) k8 o2 o3 (fun i h1 h2 => by omega)
  obtain ⟨n2, u2, gm', gs', r1, r2, r3⟩ := ms_own (N := N) (s := s) (k := ic s) (ids := im) hN (by omega) (k2 s hs).symm n N n u om gm gs (by omega) (Nat.le_refl _) k9 m2 m3 (fun i h1 h2 => by omega)
  have hperm : (lst (recC gg' gdt') n1).Perm (lst (recM gm' gs') n2) := (e3.trans (k10.filter _)).trans r3.symm
  have hnn : n1 = n2 := by have := hperm.length_eq; rw [lst_len, lst_len] at this; exact this
  subst hnn
  have huu : u1 = u2 := by rw [e2.2, bySum_perm hperm, r2.2.1, stM_sum gm' gs']
  subst huu
  have eC : fd_FontShelf_glyphCount o - 1 = iI ((n : Int) - 1) := by rw [o2, nI_iI, iI_lit, iI_sub]; rfl
  have eM : fd_mShelf_glyphs om - 1 = iI ((n : Int) - 1) := by rw [m2, nI_iI, iI_lit, iI_sub]; rfl
  have hbm : bo1 (F + 1) pm := fun i hi => by rw [← k3 i hi]; exact k4 i hi
  have c1 := fs_lmove (F := F) (s := s) (o := (fs_FontShelf_used (fs_FontShelf_glyphCount o (nI n1)) (nI u1), gg', gdt')) (ic := ic) (pc := pc) (ac := ac) k1 o1 k4 (F - s) N s rfl (by omega) (Nat.le_refl _) (by omega)
  have c2 := ms_lmove (N := N) (F := F) (s := s) (o := (fs_mShelf_used (fs_mShelf_glyphs om (nI n1)) (nI u1), gm', gs')) (im := im) (pm := pm) (am := am) (by omega) k1 m1 hbm (F - s) N s rfl (by omega) (Nat.le_refl _) (by omega)
  have sh0 : ∀ (f : Nat → Int32) a d, shb f a d a = f := fun f a d => by funext i; unfold shb; rw [if_neg (by omega)]
  rw [shf_0, shf_0, sh0] at c1 c2
  refine ⟨n1, u1, _, _, _, gg', gdt', _, _, _, gm', gs', ?_, ?_, ⟨by omega, agree_shf k2, agree_shf k3, fun i hi => ?_, agree_shb7 k5, ?_, ?_, e2, r2, hperm, ?_, ?_⟩, rfl, rfl, rfl⟩
  · unfold ex_FontShelf_removeFont
    rw [if_neg (nI_pos (by omega)), o1, if_neg (nI_ge hs (by omega)), if_pos (show nI s < 32 from nI_lt (b := 32) (by omega) (by omega)), eC, e1]
    simp only [Option.bind_some, nI_1]
    rw [c1]
    simp only [Option.bind_some]
    have : fd_FontShelf_fonts (fs_FontShelf_used (fs_FontShelf_glyphCount o (nI n1)) (nI u1)) - 1 = nI F := by
      show fd_FontShelf_fonts o - 1 = nI F
      rw [o1]; exact (nI_sub (a := F + 1) (b := 1) (by omega)).trans (by congr 1)
    rw [this]
  · unfold ex_mShelf_goFont
    rw [eM, r1]
    simp only [Option.bind_some]
    rw [c2]
    simp only [Option.bind_some]
    have : fd_mShelf_fonts (fs_mShelf_used (fs_mShelf_glyphs om (nI n1)) (nI u1)) - 1 = nI F := by
      show fd_mShelf_fonts om - 1 = nI F
      rw [m1]; exact (nI_sub (a := F + 1) (b := 1) (by omega)).trans (by congr 1)
    rw [this]
  · rw [shf_val hi]; exact k4 _ (by split <;> omega)
  · intro f a hf ha
    rw [shb_val hf ha]; exact k6 _ a (by split <;> omega) ha
  · intro f f' hf hf' heq
    rw [shf_val hf, shf_val hf'] at heq
    have := k7 _ _ (by split <;> omega) (by split <;> omega) heq
    split at this <;> split at this <;> omega
  · exact ((e3.map ky).nodup_iff).mpr (k11.sublist ((List.filter_sublist).map ky))
  · intro i hi
    have hm : recC gg' gdt' i ∈ (lst (recC gg gdt) n).filter (fun y => !decide (ow y = ic s)) := e3.mem_iff.mp (lst_mem.mpr ⟨i, hi, rfl⟩)
    obtain ⟨hm1, hm2⟩ := List.mem_filter.mp hm
    obtain ⟨j, hj, hje⟩ := lst_mem.mp hm1
    obtain ⟨f, hf, hfe⟩ := k12 j hj
    rw [hje] at hfe
    have hne : f ≠ s := fun hh => by rw [hh] at hfe; rw [hfe] at hm2; simp at hm2
    by_cases q : f < s
    · exact ⟨f, by omega, by rw [shf_val (by omega), if_neg (by omega)]; exact hfe⟩
    · exact ⟨f - 1, by omega, by rw [shf_val (by omega), if_pos (by omega), show f - 1 + 1 = f by omega]; exact hfe⟩
theorem sl_slot {N F n u : Nat} {o : ob_FontShelf} {om : ob_mShelf} {ic pc ac gg gdt im pm am gm gs : Nat → Int32} (v : Int32) (hN : 1000 < N) (h : slK F n u ic pc ac gg gdt im pm am gm gs) (o1 : fd_FontShelf_fonts o = nI F) (m1 : fd_mShelf_fonts om = nI F) :
    (∃ s, s < F ∧ ic s = v ∧ ex_FontShelf_slotOf N o ic v = some (nI s) ∧ ex_mShelf_fontOf N om im v = some (nI s)) ∨ ((∀ s, s < F → ic s ≠ v) ∧ ex_FontShelf_slotOf N o ic v = some (-1) ∧ ex_mShelf_fontOf N om im v = some (-1)) := by
  obtain ⟨k1, k2, k3, k4, k5, k6, k7, k8, k9, k10, k11, k12⟩ := h
  unfold ex_FontShelf_slotOf ex_mShelf_fontOf
  by_cases q : ∃ s, s < F ∧ ic s = v
  · left
    obtain ⟨s, hs, hv⟩ := q
    have c1 : ∀ (m fu w : Nat), s - w = m → m < fu → w ≤ s → lp_FontShelf_slotOf_2 o ic v fu (nI w) = some (Sum.inr (nI s)) := by
      intro m
      induction m with
      | zero =>
        intro fu w hm hf hw
        obtain ⟨fu, rfl⟩ : ∃ z, fu = z + 1 := ⟨fu - 1, by omega⟩
        have : w = s := by omega
        subst this
        rw [lp_FontShelf_slotOf_2, o1, if_neg (nI_ge hs (by omega)), if_neg (show ¬ (32 : Int32) ≤ nI w from nI_ge (b := 32) (by omega) (by omega)), if_pos (dk_in_nI (by omega) (by omega)), if_pos (by rw [nI_clamp (by omega)]; exact hv)]
      | succ m ih =>
        intro fu w hm hf hw
        obtain ⟨fu, rfl⟩ : ∃ z, fu = z + 1 := ⟨fu - 1, by omega⟩
        have hne : ¬ ic w = v := fun hh => by have := k7 w s (by omega) hs (hh.trans hv.symm); omega
        rw [lp_FontShelf_slotOf_2, o1, if_neg (nI_ge (show w < F by omega) (by omega)), if_neg (show ¬ (32 : Int32) ≤ nI w from nI_ge (b := 32) (by omega) (by omega)), if_pos (dk_in_nI (by omega) (by omega)), if_neg (by rw [nI_clamp (by omega)]; exact hne), nI_1]
        exact ih fu (w + 1) (by omega) (by omega) (by omega)
    have c2 : ∀ (m fu w : Nat), F - w = m → m < fu → w ≤ F → lp_mShelf_fontOf_4 om im v fu (nI w) (if s < w then nI s else -1) = some (nI s) := by
      intro m
      induction m with
      | zero =>
        intro fu w hm hf hw
        obtain ⟨fu, rfl⟩ : ∃ z, fu = z + 1 := ⟨fu - 1, by omega⟩
        have : w = F := by omega
        subst this
        rw [lp_mShelf_fontOf_4, m1, if_pos (nI_le (Nat.le_refl _) (by omega)), if_pos hs]
      | succ m ih =>
        intro fu w hm hf hw
        obtain ⟨fu, rfl⟩ : ∃ z, fu = z + 1 := ⟨fu - 1, by omega⟩
        have hr := ih fu (w + 1) (by omega) (by omega) (by omega)
        rw [lp_mShelf_fontOf_4, m1, if_neg (nI_ge (show w < F by omega) (by omega)), if_pos (dk_in_nI (by omega) (by omega)), nI_1]
        by_cases qs : w = s
        · subst qs
          rw [if_pos (by omega)] at hr
          rw [if_pos (by rw [nI_clamp (by omega), ← k2 w hs]; exact hv)]; exact hr
        · have hne : ¬ im w = v := fun hh => by rw [← k2 w (by omega)] at hh; exact qs (k7 w s (by omega) hs (hh.trans hv.symm))
          rw [if_neg (by rw [nI_clamp (by omega)]; exact hne)]
          have : (if s < w then nI s else (-1 : Int32)) = if s < w + 1 then nI s else -1 := by
            by_cases q2 : s < w
            · rw [if_pos q2, if_pos (by omega)]
            · rw [if_neg q2, if_neg (by omega)]
          rw [this]; exact hr
    have c1' : lp_FontShelf_slotOf_2 o ic v N 0 = some (Sum.inr (nI s)) := c1 s N 0 rfl (by omega) (by omega)
    have c2' : lp_mShelf_fontOf_4 om im v N 0 (-1) = some (nI s) := c2 F N 0 rfl (by omega) (by omega)
    rw [c1', c2']
    exact ⟨s, hs, hv, rfl, rfl⟩
  · right
    have hno : ∀ s, s < F → ic s ≠ v := fun s hs hh => q ⟨s, hs, hh⟩
    have c1 : ∀ (m fu w : Nat), F - w = m → m < fu → w ≤ F → lp_FontShelf_slotOf_2 o ic v fu (nI w) = some (Sum.inl ()) := by
      intro m
      induction m with
      | zero =>
        intro fu w hm hf hw
        obtain ⟨fu, rfl⟩ : ∃ z, fu = z + 1 := ⟨fu - 1, by omega⟩
        rw [lp_FontShelf_slotOf_2, o1, if_pos (nI_le (show F ≤ w by omega) (by omega))]
      | succ m ih =>
        intro fu w hm hf hw
        obtain ⟨fu, rfl⟩ : ∃ z, fu = z + 1 := ⟨fu - 1, by omega⟩
        rw [lp_FontShelf_slotOf_2, o1, if_neg (nI_ge (show w < F by omega) (by omega)), if_neg (show ¬ (32 : Int32) ≤ nI w from nI_ge (b := 32) (by omega) (by omega)), if_pos (dk_in_nI (by omega) (by omega)), if_neg (by rw [nI_clamp (by omega)]; exact hno w (by omega)), nI_1]
        exact ih fu (w + 1) (by omega) (by omega) (by omega)
    have c2 : ∀ (m fu w : Nat), F - w = m → m < fu → w ≤ F → lp_mShelf_fontOf_4 om im v fu (nI w) (-1) = some (-1) := by
      intro m
      induction m with
      | zero =>
        intro fu w hm hf hw
        obtain ⟨fu, rfl⟩ : ∃ z, fu = z + 1 := ⟨fu - 1, by omega⟩
        rw [lp_mShelf_fontOf_4, m1, if_pos (nI_le (show F ≤ w by omega) (by omega))]
      | succ m ih =>
        intro fu w hm hf hw
        obtain ⟨fu, rfl⟩ : ∃ z, fu = z + 1 := ⟨fu - 1, by omega⟩
        rw [lp_mShelf_fontOf_4, m1, if_neg (nI_ge (show w < F by omega) (by omega)), if_pos (dk_in_nI (by omega) (by omega)), if_neg (by rw [nI_clamp (by omega), ← k2 w (by omega)]; exact hno w (by omega)), nI_1]
        exact ih fu (w + 1) (by omega) (by omega) (by omega)
    have c1' : lp_FontShelf_slotOf_2 o ic v N 0 = some (Sum.inl ()) := c1 F N 0 rfl (by omega) (by omega)
    have c2' : lp_mShelf_fontOf_4 om im v N 0 (-1) = some (-1) := c2 F N 0 rfl (by omega) (by omega)
    rw [c1', c2']
    exact ⟨hno, rfl, rfl⟩
theorem lst_inj {f : Nat → gRec} {n : Nat} (h : ((lst f n).map ky).Nodup) : ∀ i j, i < n → j < n → ky (f i) = ky (f j) → i = j := by
  intro i j hi hj he
  have h2 := List.pairwise_iff_getElem.mp h
  have hl : ((lst f n).map ky).length = n := by rw [List.length_map, lst_len]
  have hg : ∀ k (hk : k < ((lst f n).map ky).length), ((lst f n).map ky)[k] = ky (f k) := by intro k hk; unfold lst; simp
  rcases Nat.lt_trichotomy i j with q | q | q
  · have := h2 i j (by omega) (by omega) q; rw [hg, hg] at this; exact absurd he this
  · exact q
  · have := h2 j i (by omega) (by omega) q; rw [hg, hg] at this; exact absurd he.symm this
theorem sl_glyph {N F n u : Nat} {o : ob_FontShelf} {om : ob_mShelf} {ic pc ac gg gdt im pm am gm gs : Nat → Int32} (v w : Int32) (hN : 1000 < N) (h : slK F n u ic pc ac gg gdt im pm am gm gs) (o2 : fd_FontShelf_glyphCount o = nI n) (m2 : fd_mShelf_glyphs om = nI n) :
    (∃ c e, c < n ∧ e < n ∧ ky (recC gg gdt c) = (v, w) ∧ recC gg gdt c = recM gm gs e ∧ ex_FontShelf_glyphOf N o gg v w = some (nI c) ∧ ex_mShelf_glyphOf N om gm v w = some (nI e)) ∨ ((∀ c, c < n → ky (recC gg gdt c) ≠ (v, w)) ∧ (∀ e, e < n → ky (recM gm gs e) ≠ (v, w)) ∧ ex_FontShelf_glyphOf N o gg v w = some (-1) ∧ ex_mShelf_glyphOf N om gm v w = some (-1)) := by
  obtain ⟨k1, k2, k3, k4, k5, k6, k7, k8, k9, k10, k11, k12⟩ := h
  have hn := k8.1.1
  have iC := lst_inj k11
  have iM := lst_inj (((k10.map ky).nodup_iff).mp k11)
  have kC : ∀ c, ky (recC gg gdt c) = (v, w) ↔ gg (9 * c + 1) = w ∧ gg (9 * c + 0) = v := fun c => by
    show (gg (9 * c), gg (9 * c + 1)) = (v, w) ↔ _
    rw [Prod.mk.injEq]; exact And.comm
  have kM : ∀ c, ky (recM gm gs c) = (v, w) ↔ gm (7 * c) = v ∧ gm (7 * c + 1) = w := fun c => by
    show (gm (7 * c), gm (7 * c + 1)) = (v, w) ↔ _
    rw [Prod.mk.injEq]
  -- one step of the class's search
  have sC : ∀ (fu k : Nat), k < n → lp_FontShelf_glyphOf_2 o gg v w (fu + 1) (nI k) = if ky (recC gg gdt k) = (v, w) then some (Sum.inr (nI k)) else lp_FontShelf_glyphOf_2 o gg v w fu (nI (k + 1)) := by
    intro fu k hk
    have e1 : nI k * 9 + 1 = nI (9 * k + 1) := by have h9 := nI_mul k 9; rw [Nat.mul_comm] at h9; rw [show nI k * 9 = nI (9 * k) from h9, nI_addL]
    have e0 : nI k * 9 + 0 = nI (9 * k + 0) := by have h9 := nI_mul k 9; rw [Nat.mul_comm] at h9; rw [show nI k * 9 = nI (9 * k) from h9, nI_addL]
    have c1 : (nI (9 * k + 1)).toNatClampNeg = 9 * k + 1 := nI_clamp (by omega)
    have c0 : (nI (9 * k + 0)).toNatClampNeg = 9 * k + 0 := nI_clamp (by omega)
    rw [lp_FontShelf_glyphOf_2, o2, if_neg (nI_ge hk (by omega)), if_neg (show ¬ (256 : Int32) ≤ nI k from nI_ge (b := 256) (by omega) (by omega)), e1, e0, if_pos (dk_in_nI (by omega) (by omega)), nI_1]
    by_cases q1 : gg (9 * k + 1) = w
    · rw [if_pos (by rw [c1]; exact q1), if_pos (dk_in_nI (by omega) (by omega))]
      by_cases q0 : gg (9 * k + 0) = v
      · rw [if_pos (by rw [c0]; exact q0), if_pos ((kC k).mpr ⟨q1, q0⟩)]
      · rw [if_neg (by rw [c0]; exact q0), if_neg (fun hh => q0 ((kC k).mp hh).2)]
    · rw [if_neg (by rw [c1]; exact q1), if_neg (fun hh => q1 ((kC k).mp hh).1)]
  have sM : ∀ (fu k : Nat) (a : Int32), k < n → lp_mShelf_glyphOf_5 om gm v w (fu + 1) (nI k) a = lp_mShelf_glyphOf_5 om gm v w fu (nI (k + 1)) (if ky (recM gm gs k) = (v, w) then nI k else a) := by
    intro fu k a hk
    have c0 : (nI (7 * k)).toNatClampNeg = 7 * k := nI_clamp (by omega)
    have e1 : nI (7 * k) + 1 = nI (7 * k + 1) := nI_addL _ 1
    have c1 : (nI (7 * k + 1)).toNatClampNeg = 7 * k + 1 := nI_clamp (by omega)
    rw [lp_mShelf_glyphOf_5, m2, if_neg (nI_ge hk (by omega)), nI_Lmul, e1, if_pos (dk_in_nI (by omega) (by omega)), nI_1]
    by_cases q0 : gm (7 * k) = v
    · rw [if_pos (by rw [c0]; exact q0), if_pos (dk_in_nI (by omega) (by omega))]
      by_cases q1 : gm (7 * k + 1) = w
      · rw [if_pos (by rw [c1]; exact q1), if_pos ((kM k).mpr ⟨q0, q1⟩)]
      · rw [if_neg (by rw [c1]; exact q1), if_neg (fun hh => q1 ((kM k).mp hh).2)]
    · rw [if_neg (by rw [c0]; exact q0), if_neg (fun hh => q0 ((kM k).mp hh).1)]
  unfold ex_FontShelf_glyphOf ex_mShelf_glyphOf
  by_cases q : ∃ c, c < n ∧ ky (recC gg gdt c) = (v, w)
  · left
    obtain ⟨c, hc, hk⟩ := q
    obtain ⟨e, he, hre⟩ := lst_mem.mp (k10.mem_iff.mp (lst_mem.mpr ⟨c, hc, rfl⟩))
    have hke : ky (recM gm gs e) = (v, w) := by rw [hre]; exact hk
    have c1 : ∀ (m fu k : Nat), c - k = m → m < fu → k ≤ c → lp_FontShelf_glyphOf_2 o gg v w fu (nI k) = some (Sum.inr (nI c)) := by
      intro m
      induction m with
      | zero =>
        intro fu k hm hf hkc
        obtain ⟨fu, rfl⟩ : ∃ z, fu = z + 1 := ⟨fu - 1, by omega⟩
        have : k = c := by omega
        subst this
        rw [sC fu k hc, if_pos hk]
      | succ m ih =>
        intro fu k hm hf hkc
        obtain ⟨fu, rfl⟩ : ∃ z, fu = z + 1 := ⟨fu - 1, by omega⟩
        rw [sC fu k (by omega), if_neg (fun hh => by have := iC k c (by omega) hc (hh.trans hk.symm); omega)]
        exact ih fu (k + 1) (by omega) (by omega) (by omega)
    have c2 : ∀ (m fu k : Nat), n - k = m → m < fu → k ≤ n → lp_mShelf_glyphOf_5 om gm v w fu (nI k) (if e < k then nI e else -1) = some (nI e) := by
      intro m
      induction m with
      | zero =>
        intro fu k hm hf hkn
        obtain ⟨fu, rfl⟩ : ∃ z, fu = z + 1 := ⟨fu - 1, by omega⟩
        rw [lp_mShelf_glyphOf_5, m2, if_pos (nI_le (show n ≤ k by omega) (by omega)), if_pos (by omega)]
      | succ m ih =>
        intro fu k hm hf hkn
        obtain ⟨fu, rfl⟩ : ∃ z, fu = z + 1 := ⟨fu - 1, by omega⟩
        have hr := ih fu (k + 1) (by omega) (by omega) (by omega)
        rw [sM fu k _ (by omega)]
        by_cases qe : k = e
        · subst qe
          rw [if_pos (by omega)] at hr
          rw [if_pos hke]; exact hr
        · rw [if_neg (fun hh => qe (iM k e (by omega) he (hh.trans hke.symm)))]
          have : (if e < k then nI e else (-1 : Int32)) = if e < k + 1 then nI e else -1 := by
            by_cases q2 : e < k
            · rw [if_pos q2, if_pos (by omega)]
            · rw [if_neg q2, if_neg (by omega)]
          rw [this]; exact hr
    have c1' : lp_FontShelf_glyphOf_2 o gg v w N 0 = some (Sum.inr (nI c)) := c1 c N 0 rfl (by omega) (by omega)
    have c2' : lp_mShelf_glyphOf_5 om gm v w N 0 (-1) = some (nI e) := c2 n N 0 rfl (by omega) (by omega)
    rw [c1', c2']
    exact ⟨c, e, hc, he, hk, hre.symm, rfl, rfl⟩
  · right
    have hno : ∀ c, c < n → ky (recC gg gdt c) ≠ (v, w) := fun c hc hh => q ⟨c, hc, hh⟩
    have hnoM : ∀ e, e < n → ky (recM gm gs e) ≠ (v, w) := fun e he hh => by
      obtain ⟨c, hc, hre⟩ := lst_mem.mp (k10.mem_iff.mpr (lst_mem.mpr ⟨e, he, rfl⟩))
      exact hno c hc (by rw [hre]; exact hh)
    have c1 : ∀ (m fu k : Nat), n - k = m → m < fu → k ≤ n → lp_FontShelf_glyphOf_2 o gg v w fu (nI k) = some (Sum.inl ()) := by
      intro m
      induction m with
      | zero =>
        intro fu k hm hf hkn
        obtain ⟨fu, rfl⟩ : ∃ z, fu = z + 1 := ⟨fu - 1, by omega⟩
        rw [lp_FontShelf_glyphOf_2, o2, if_pos (nI_le (show n ≤ k by omega) (by omega))]
      | succ m ih =>
        intro fu k hm hf hkn
        obtain ⟨fu, rfl⟩ : ∃ z, fu = z + 1 := ⟨fu - 1, by omega⟩
        rw [sC fu k (by omega), if_neg (hno k (by omega))]
        exact ih fu (k + 1) (by omega) (by omega) (by omega)
    have c2 : ∀ (m fu k : Nat), n - k = m → m < fu → k ≤ n → lp_mShelf_glyphOf_5 om gm v w fu (nI k) (-1) = some (-1) := by
      intro m
      induction m with
      | zero =>
        intro fu k hm hf hkn
        obtain ⟨fu, rfl⟩ : ∃ z, fu = z + 1 := ⟨fu - 1, by omega⟩
        rw [lp_mShelf_glyphOf_5, m2, if_pos (nI_le (show n ≤ k by omega) (by omega))]
      | succ m ih =>
        intro fu k hm hf hkn
        obtain ⟨fu, rfl⟩ : ∃ z, fu = z + 1 := ⟨fu - 1, by omega⟩
        rw [sM fu k _ (by omega), if_neg (hnoM k (by omega))]
        exact ih fu (k + 1) (by omega) (by omega) (by omega)
    have c1' : lp_FontShelf_glyphOf_2 o gg v w N 0 = some (Sum.inl ()) := c1 n N 0 rfl (by omega) (by omega)
    have c2' : lp_mShelf_glyphOf_5 om gm v w N 0 (-1) = some (-1) := c2 n N 0 rfl (by omega) (by omega)
    rw [c1', c2']
    exact ⟨hno, hnoM, rfl, rfl⟩
def fsO (o : ob_FontShelf) (F n u : Nat) : ob_FontShelf := fs_FontShelf_fonts (fs_FontShelf_used (fs_FontShelf_glyphCount o (nI n)) (nI u)) (nI F)
def msO (o : ob_mShelf) (F n u : Nat) : ob_mShelf := fs_mShelf_fonts (fs_mShelf_used (fs_mShelf_glyphs o (nI n)) (nI u)) (nI F)
theorem fsO_self {o : ob_FontShelf} {F n u : Nat} (o1 : fd_FontShelf_fonts o = nI F) (o2 : fd_FontShelf_glyphCount o = nI n) (o3 : fd_FontShelf_used o = nI u) : o = fsO o F n u := by unfold fsO; rw [← o1, ← o2, ← o3]
theorem msO_self {o : ob_mShelf} {F n u : Nat} (o1 : fd_mShelf_fonts o = nI F) (o2 : fd_mShelf_glyphs o = nI n) (o3 : fd_mShelf_used o = nI u) : o = msO o F n u := by unfold msO; rw [← o1, ← o2, ← o3]
theorem sl_passing {N : Nat} (hN : 30000 < N) : ∀ (w fu fu2 F n u : Nat) (o : ob_FontShelf) (om : ob_mShelf) (ic pc ac gg gdt im pm am gm gs : Nat → Int32) (cnt : Int32), w < fu → w < fu2 → w ≤ F → slK F n u ic pc ac gg gdt im pm am gm gs → fd_FontShelf_fonts o = nI F → fd_FontShelf_glyphCount o = nI n → fd_FontShelf_used o = nI u → fd_mShelf_fonts om = nI F → fd_mShelf_glyphs om = nI n → fd_mShelf_used om = nI u →
    ∃ F' n' u' ic' pc' ac' gg' gdt' im' pm' am' gm' gs' cnt', lp_FontShelf_dropPassing_17 N fu (iI ((w : Int) - 1)) o pc ic ac gg gdt = some (fsO o F' n' u', pc', ic', ac', gg', gdt') ∧ lp_mShelf_drop_72 N 1 fu2 (iI ((w : Int) - 1)) cnt om im am pm gm gs = some (cnt', msO om F' n' u', im', am', pm', gm', gs') ∧ slK F' n' u' ic' pc' ac' gg' gdt' im' pm' am' gm' gs' := by
  intro w
  induction w with
  | zero =>
    intro fu fu2 F n u o om ic pc ac gg gdt im pm am gm gs cnt hf hf2 hw h o1 o2 o3 m1 m2 m3
    obtain ⟨fu, rfl⟩ : ∃ z, fu = z + 1 := ⟨fu - 1, by omega⟩
    obtain ⟨fu2, rfl⟩ : ∃ z, fu2 = z + 1 := ⟨fu2 - 1, by omega⟩
    have c : iI (((0 : Nat) : Int) - 1) < 0 := by decide
    refine ⟨F, n, u, ic, pc, ac, gg, gdt, im, pm, am, gm, gs, cnt, ?_, ?_, h⟩
    · rw [lp_FontShelf_dropPassing_17, if_pos c, ← fsO_self o1 o2 o3]
    · rw [lp_mShelf_drop_72, if_pos c, ← msO_self m1 m2 m3]
  | succ w ih =>
    intro fu fu2 F n u o om ic pc ac gg gdt im pm am gm gs cnt hf hf2 hw h o1 o2 o3 m1 m2 m3
    obtain ⟨fu, rfl⟩ : ∃ z, fu = z + 1 := ⟨fu - 1, by omega⟩
    obtain ⟨fu2, rfl⟩ : ∃ z, fu2 = z + 1 := ⟨fu2 - 1, by omega⟩
    obtain ⟨F, rfl⟩ : ∃ z, F = z + 1 := ⟨F - 1, by omega⟩
    have k1 := h.1
    have kp := h.2.2.1 w (by omega)
    have ew : iI (((w + 1 : Nat) : Int) - 1) = nI w := by rw [nI_iI]; congr 1; omega
    have em : nI w + (-1) = iI ((w : Int) - 1) := by
      have : (-1 : Int32) = iI (-1) := by decide
      rw [nI_iI, this, iI_add]; rfl
    have hcl : (nI w).toNatClampNeg = w := nI_clamp (by omega)
    rw [lp_FontShelf_dropPassing_17, lp_mShelf_drop_72, ew, if_neg (nI_pos (by omega)), if_neg (nI_pos (by omega)), if_pos (dk_in_nI (show w < 32 by omega) (by omega)), if_neg (show ¬ (1 : Int32) = 0 by decide), if_pos (show (1 : Int32) = 1 from rfl), if_pos (dk_in_nI (show w < 33 by omega) (by omega)), em]
    by_cases q : pc w = 0
    · rw [if_pos (by rw [hcl]; exact q), if_pos (by rw [hcl, ← kp]; exact q)]
      obtain ⟨n', u', ic', pc', ac', gg', gdt', im', pm', am', gm', gs', e1, e2, e3, _, _, _⟩ := sl_font (N := N) (s := w) hN h (by omega) o1 o2 o3 m1 m2 m3
      rw [e1, e2]
      simp only [Option.bind_some]
      obtain ⟨F2, n2, u2, a1, a2, a3, a4, a5, a6, a7, a8, a9, a10, c2, r1, r2, r3⟩ := ih fu fu2 F n' u' (fsO o F n' u') (msO om F n' u') ic' pc' ac' gg' gdt' im' pm' am' gm' gs' (cnt + 1) (by omega) (by omega) (by omega) e3 rfl rfl rfl rfl rfl rfl
      exact ⟨F2, n2, u2, a1, a2, a3, a4, a5, a6, a7, a8, a9, a10, c2, r1, r2, r3⟩
    · rw [if_neg (by rw [hcl]; exact q), if_neg (by rw [hcl, ← kp]; exact q), if_neg (show ¬ (1 : Int32) = 2 by decide)]
      exact ih fu fu2 (F + 1) n u o om ic pc ac gg gdt im pm am gm gs cnt (by omega) (by omega) (by omega) h o1 o2 o3 m1 m2 m3
/-- all fonts go in the reference -/
theorem sl_all {N : Nat} (hN : 30000 < N) : ∀ (F fu2 n u : Nat) (om : ob_mShelf) (ic pc ac gg gdt im pm am gm gs : Nat → Int32) (cnt : Int32), F < fu2 → slK F n u ic pc ac gg gdt im pm am gm gs → fd_mShelf_fonts om = nI F → fd_mShelf_glyphs om = nI n → fd_mShelf_used om = nI u →
    ∃ im' pm' am' gm' gs' cnt', lp_mShelf_drop_72 N 0 fu2 (iI ((F : Int) - 1)) cnt om im am pm gm gs = some (cnt', msO om 0 0 0, im', am', pm', gm', gs') ∧ gwM 0 0 gm' gs' := by
  intro F
  induction F with
  | zero =>
    intro fu2 n u om ic pc ac gg gdt im pm am gm gs cnt hf2 h m1 m2 m3
    obtain ⟨fu2, rfl⟩ : ∃ z, fu2 = z + 1 := ⟨fu2 - 1, by omega⟩
    obtain ⟨k1, k2, k3, k4, k5, k6, k7, k8, k9, k10, k11, k12⟩ := h
    have n0 : n = 0 := by
      rcases Nat.eq_zero_or_pos n with z | z
      · exact z
      · obtain ⟨f, hf, _⟩ := k12 0 z; omega
    subst n0
    have u0 : u = 0 := k8.2
    subst u0
    have c : iI (((0 : Nat) : Int) - 1) < 0 := by decide
    refine ⟨im, pm, am, gm, gs, cnt, ?_, k9⟩
    rw [lp_mShelf_drop_72, if_pos c, ← msO_self m1 m2 m3]
  | succ F ih =>
    intro fu2 n u om ic pc ac gg gdt im pm am gm gs cnt hf2 h m1 m2 m3
    obtain ⟨fu2, rfl⟩ : ∃ z, fu2 = z + 1 := ⟨fu2 - 1, by omega⟩
    have k1 := h.1
    have ew : iI (((F + 1 : Nat) : Int) - 1) = nI F := by rw [nI_iI]; congr 1; omega
    have em : nI F + (-1) = iI ((F : Int) - 1) := by
      have : (-1 : Int32) = iI (-1) := by decide
      rw [nI_iI, this, iI_add]; rfl
    obtain ⟨o, ho⟩ : ∃ o : ob_FontShelf, o = fsO (0, 0, 0, 0, 0, 0) (F + 1) n u := ⟨_, rfl⟩
    obtain ⟨n', u', ic', pc', ac', gg', gdt', im', pm', am', gm', gs', e1, e2, e3, _, _, _⟩ := sl_font (N := N) (o := o) (s := F) hN h (by omega) (by rw [ho]; rfl) (by rw [ho]; rfl) (by rw [ho]; rfl) m1 m2 m3
    rw [lp_mShelf_drop_72, ew, if_neg (nI_pos (by omega)), if_pos (show (0 : Int32) = 0 from rfl), em, e2]
    simp only [Option.bind_some]
    obtain ⟨a5, a6, a7, a8, a9, c2, r1, r2⟩ := ih fu2 n' u' (msO om F n' u') ic' pc' ac' gg' gdt' im' pm' am' gm' gs' (cnt + 1) (by omega) e3 rfl rfl rfl
    exact ⟨a5, a6, a7, a8, a9, c2, r1, r2⟩
/-- the font with the id goes in the reference -/
theorem ms_skip {N : Nat} {k : Int32} : ∀ (w fu2 : Nat) (om : ob_mShelf) (im pm am gm gs : Nat → Int32) (cnt : Int32), w < fu2 → w ≤ 33 → fd_mShelf_id om = k → (∀ i, i < w → im i ≠ k) → lp_mShelf_drop_72 N 2 fu2 (iI ((w : Int) - 1)) cnt om im am pm gm gs = some (cnt, om, im, am, pm, gm, gs) := by
  intro w
  induction w with
  | zero =>
    intro fu2 om im pm am gm gs cnt hf2 hw hk h
    obtain ⟨fu2, rfl⟩ : ∃ z, fu2 = z + 1 := ⟨fu2 - 1, by omega⟩
    rw [lp_mShelf_drop_72, if_pos (show iI (((0 : Nat) : Int) - 1) < 0 by decide)]
  | succ w ih =>
    intro fu2 om im pm am gm gs cnt hf2 hw hk h
    obtain ⟨fu2, rfl⟩ : ∃ z, fu2 = z + 1 := ⟨fu2 - 1, by omega⟩
    have ew : iI (((w + 1 : Nat) : Int) - 1) = nI w := by rw [nI_iI]; congr 1; omega
    have em : nI w + (-1) = iI ((w : Int) - 1) := by
      have : (-1 : Int32) = iI (-1) := by decide
      rw [nI_iI, this, iI_add]; rfl
    rw [lp_mShelf_drop_72, ew, if_neg (nI_pos (by omega)), if_neg (show ¬ (2 : Int32) = 0 by decide), if_neg (show ¬ (2 : Int32) = 1 by decide), if_pos (show (2 : Int32) = 2 from rfl), if_pos (dk_in_nI (show w < 33 by omega) (by omega)), if_neg (by rw [nI_clamp (by omega), hk]; exact h w (by omega)), em]
    exact ih fu2 om im pm am gm gs cnt (by omega) (by omega) hk (fun i hi => h i (by omega))
theorem sl_one {N F n u s : Nat} {k : Int32} {o : ob_FontShelf} {ic pc ac gg gdt im pm am gm gs : Nat → Int32} {om : ob_mShelf} (hN : 30000 < N) (h : slK (F + 1) n u ic pc ac gg gdt im pm am gm gs) (hs : s < F + 1) (hk : ic s = k) (hid : fd_mShelf_id om = k) (o1 : fd_FontShelf_fonts o = nI (F + 1)) (o2 : fd_FontShelf_glyphCount o = nI n) (o3 : fd_FontShelf_used o = nI u) (m1 : fd_mShelf_fonts om = nI (F + 1)) (m2 : fd_mShelf_glyphs om = nI n) (m3 : fd_mShelf_used om = nI u) :
    ∃ n' u' ic' pc' ac' gg' gdt' im' pm' am' gm' gs', ex_FontShelf_removeFont N o ic gg gdt pc ac (nI s) = some (fsO o F n' u', ic', gg', gdt', pc', ac') ∧ (∀ cnt, ∃ cnt', lp_mShelf_drop_72 N 2 N (iI (((F + 1 : Nat) : Int) - 1)) cnt om im am pm gm gs = some (cnt', msO om F n' u', im', am', pm', gm', gs')) ∧ slK F n' u' ic' pc' ac' gg' gdt' im' pm' am' gm' gs' := by
  have k1 := h.1
  have k2 := h.2.1
  have k7 := h.2.2.2.2.2.2.1
  obtain ⟨n', u', ic', pc', ac', gg', gdt', im', pm', am', gm', gs', e1, e2, e3, e4, e5, e6⟩ := sl_font (N := N) (o := o) (om := om) hN h hs o1 o2 o3 m1 m2 m3
  refine ⟨n', u', ic', pc', ac', gg', gdt', im', pm', am', gm', gs', e1, fun cnt => ⟨cnt + 1, ?_⟩, e3⟩
  have go : ∀ (m fu2 w : Nat), w - (s + 1) = m → w < fu2 → s + 1 ≤ w → w ≤ F + 1 → lp_mShelf_drop_72 N 2 fu2 (iI ((w : Int) - 1)) cnt om im am pm gm gs = some (cnt + 1, msO om F n' u', im', am', pm', gm', gs') := by
    intro m
    induction m with
    | zero =>
      intro fu2 w hm hf hw hw2
      obtain ⟨fu2, rfl⟩ : ∃ z, fu2 = z + 1 := ⟨fu2 - 1, by omega⟩
      have : w = s + 1 := by omega
      subst this
      have ew : iI (((s + 1 : Nat) : Int) - 1) = nI s := by rw [nI_iI]; congr 1; omega
      have em : nI s + (-1) = iI ((s : Int) - 1) := by
        have : (-1 : Int32) = iI (-1) := by decide
        rw [nI_iI, this, iI_add]; rfl
      rw [lp_mShelf_drop_72, ew, if_neg (nI_pos (by omega)), if_neg (show ¬ (2 : Int32) = 0 by decide), if_neg (show ¬ (2 : Int32) = 1 by decide), if_pos (show (2 : Int32) = 2 from rfl), if_pos (dk_in_nI (show s < 33 by omega) (by omega)), if_pos (by rw [nI_clamp (by omega), hid, ← k2 s hs]; exact hk), em, e2]
      simp only [Option.bind_some]
      exact ms_skip s fu2 (msO om F n' u') im' pm' am' gm' gs' (cnt + 1) (by omega) (by omega) hid (fun i hi hh => by
        have : ic' i = k := (e3.2.1 i (by omega)).trans hh
        rw [e4, shf_val (by omega), if_neg (by omega)] at this
        have := k7 i s (by omega) hs (this.trans hk.symm); omega)
    | succ m ih =>
      intro fu2 w hm hf hw hw2
      obtain ⟨fu2, rfl⟩ : ∃ z, fu2 = z + 1 := ⟨fu2 - 1, by omega⟩
      obtain ⟨w, rfl⟩ : ∃ z, w = z + 1 := ⟨w - 1, by omega⟩
      have ew : iI (((w + 1 : Nat) : Int) - 1) = nI w := by rw [nI_iI]; congr 1; omega
      have em : nI w + (-1) = iI ((w : Int) - 1) := by
        have : (-1 : Int32) = iI (-1) := by decide
        rw [nI_iI, this, iI_add]; rfl
      rw [lp_mShelf_drop_72, ew, if_neg (nI_pos (by omega)), if_neg (show ¬ (2 : Int32) = 0 by decide), if_neg (show ¬ (2 : Int32) = 1 by decide), if_pos (show (2 : Int32) = 2 from rfl), if_pos (dk_in_nI (show w < 33 by omega) (by omega)), if_neg (by
        rw [nI_clamp (by omega), hid, ← k2 w (by omega)]
        exact fun hh => by have := k7 w s (by omega) hs (hh.trans hk.symm); omega), em]
      exact ih fu2 w (by omega) (by omega) (by omega) (by omega)
  exact go (F + 1 - (s + 1)) N (F + 1) rfl (by omega) (by omega) (Nat.le_refl _)
/-- the shelves of both sides, with their objects -/
def slR (F n u : Nat) (o : ob_FontShelf) (om : ob_mShelf) (ic pc ac gg gdt im pm am gm gs : Nat → Int32) : Prop := slK F n u ic pc ac gg gdt im pm am gm gs ∧ fd_FontShelf_fonts o = nI F ∧ fd_FontShelf_glyphCount o = nI n ∧ fd_FontShelf_used o = nI u ∧ fd_mShelf_fonts om = nI F ∧ fd_mShelf_glyphs om = nI n ∧ fd_mShelf_used om = nI u ∧ fd_FontShelf_id o = fd_mShelf_id om ∧ fd_FontShelf_code o = fd_mShelf_code om
theorem slK_perm {F n u s : Nat} {x : Int32} {ic pc ac gg gdt im pm am gm gs : Nat → Int32} (h : slK F n u ic pc ac gg gdt im pm am gm gs) (hx : x = 0 ∨ x = 1) : slK F n u ic (upd pc s x) ac gg gdt im (upd pm s x) am gm gs := by
  obtain ⟨k1, k2, k3, k4, k5, k6, k7, k8, k9, k10, k11, k12⟩ := h
  exact ⟨k1, k2, agree_upd k3 s x, bo1_upd k4 s hx, k5, k6, k7, k8, k9, k10, k11, k12⟩
theorem slK_none {F n u : Nat} {ic pc ac gg gdt im pm am gm gs im' pm' am' gm' gs' : Nat → Int32} (h : slK F n u ic pc ac gg gdt im pm am gm gs) (hm : gwM 0 0 gm' gs') : slK 0 0 0 ic pc ac gg gdt im' pm' am' gm' gs' := by
  obtain ⟨k1, k2, k3, k4, k5, k6, k7, k8, k9, k10, k11, k12⟩ := h
  exact ⟨by omega, fun i hi => absurd hi (by omega), fun i hi => absurd hi (by omega), fun i hi => absurd hi (by omega), fun i hi => absurd hi (by omega), fun f a hf => absurd hf (by omega), fun f f' hf => absurd hf (by omega), ⟨⟨by omega, by omega, k8.1.2.2.1, fun c hc => absurd hc (by omega), fun c c' hc => absurd hc (by omega)⟩, rfl⟩, hm, List.Perm.refl _, List.Pairwise.nil, fun i hi => absurd hi (by omega)⟩
/-- a glyph goes on both sides -/
theorem sl_rem {N F n u c e : Nat} {o : ob_FontShelf} {om : ob_mShelf} {ic pc ac gg gdt im pm am gm gs : Nat → Int32} (hN : 30000 < N) (h : slK F (n + 1) u ic pc ac gg gdt im pm am gm gs) (hc : c < n + 1) (he : e < n + 1) (hce : recC gg gdt c = recM gm gs e) (o2 : fd_FontShelf_glyphCount o = nI (n + 1)) (o3 : fd_FontShelf_used o = nI u) (m2 : fd_mShelf_glyphs om = nI (n + 1)) (m3 : fd_mShelf_used om = nI u) :
    ∃ u' gg' gdt' gm' gs', ex_FontShelf_removeGlyph N o gg gdt (nI c) = some (fs_FontShelf_used (fs_FontShelf_glyphCount o (nI n)) (nI u'), gg', gdt') ∧ ex_mShelf_goGlyph N om gm gs (nI e) = some (fs_mShelf_used (fs_mShelf_glyphs om (nI n)) (nI u'), gm', gs') ∧ slK F n u' ic pc ac gg' gdt' im pm am gm' gs' ∧ u' + byR (recC gg gdt c) = u ∧ (recC gg gdt c :: lst (recC gg' gdt') n).Perm (lst (recC gg gdt) (n + 1)) := by
  obtain ⟨k1, k2, k3, k4, k5, k6, k7, k8, k9, k10, k11, k12⟩ := h
  obtain ⟨u1, gg', gdt', e1, e2, e3, e4⟩ := gC_rem (N := N) (by omega) k8 hc o2 o3
  obtain ⟨u2, gm', gs', r1, r2, r3, r4⟩ := gM_rem (N := N) hN k9 he m2 m3
  have hp : (lst (recC gg' gdt') n).Perm (lst (recM gm' gs') n) := by
    have := (e4.trans k10).trans r4.symm
    rw [hce] at this
    exact this.cons_inv
  have huu : u1 = u2 := by rw [e2.2, bySum_perm hp, r2.2.1, stM_sum gm' gs']
  subst huu
  have hsum : u1 + byR (recC gg gdt c) = u := by
    have := bySum_perm e4
    rw [bySum_cons, ← e2.2, ← k8.2] at this; omega
  refine ⟨u1, gg', gdt', gm', gs', e1, r1, ⟨k1, k2, k3, k4, k5, k6, k7, e2, r2, hp, ?_, ?_⟩, hsum, e4⟩
  · have := ((e4.map ky).nodup_iff).mpr k11
    rw [List.map_cons, List.nodup_cons] at this
    exact this.2
  · intro i hi
    rw [e3 i hi]
    split
    · exact k12 n (by omega)
    · exact k12 i (by omega)
theorem sl_drop1 {N F n u : Nat} {o : ob_FontShelf} {om : ob_mShelf} {ic pc ac gg gdt im pm am gm gs : Nat → Int32} (hN : 30000 < N) (h : slR F n u o om ic pc ac gg gdt im pm am gm gs) :
    ∃ F' n' u' ic' pc' ac' gg' gdt' im' pm' am' gm' gs' cnt', ex_FontShelf_dropPassing N o pc ic ac gg gdt = some (fsO (fs_FontShelf_chosenKnown o 0) F' n' u', pc', ic', ac', gg', gdt') ∧ ex_mShelf_drop N om im am pm gm gs 1 = some (msO (fs_mShelf_loading (fs_mShelf_thrown om 0) 0) F' n' u', im', am', pm', gm', gs', cnt') ∧ slR F' n' u' (fsO (fs_FontShelf_chosenKnown o 0) F' n' u') (msO (fs_mShelf_loading (fs_mShelf_thrown om 0) 0) F' n' u') ic' pc' ac' gg' gdt' im' pm' am' gm' gs' := by
  obtain ⟨hK, o1, o2, o3, m1, m2, m3, hi, hc⟩ := h
  have k1 := hK.1
  obtain ⟨F', n', u', ic', pc', ac', gg', gdt', im', pm', am', gm', gs', cnt', e1, e2, e3⟩ := sl_passing (N := N) hN F N N F n u (fs_FontShelf_chosenKnown o 0) (fs_mShelf_loading (fs_mShelf_thrown om 0) 0) ic pc ac gg gdt im pm am gm gs 0 (by omega) (by omega) (Nat.le_refl _) hK o1 o2 o3 m1 m2 m3
  have eC : nI F - 1 = iI ((F : Int) - 1) := by rw [nI_iI, iI_lit, iI_sub]; rfl
  refine ⟨F', n', u', ic', pc', ac', gg', gdt', im', pm', am', gm', gs', cnt', ?_, ?_, e3, rfl, rfl, rfl, rfl, rfl, rfl, hi, hc⟩
  · unfold ex_FontShelf_dropPassing
    rw [o1, if_neg (show ¬ (32 : Int32) < nI F from nI_nlt (a := 32) (by omega) (by omega)), dk_let, eC, e1]; rfl
  · unfold ex_mShelf_drop
    rw [if_neg (show ¬ (1 : Int32) < 0 by decide), if_pos (show (1 : Int32) ≤ 3 by decide), if_neg (show ¬ (1 : Int32) = 3 by decide), m1, eC, e2]; rfl
theorem sl_mng {N F n u v : Nat} {o : ob_FontShelf} {om : ob_mShelf} {ic pc ac gg gdt im pm am gm gs : Nat → Int32} (hN : 30000 < N) (h : slR F n u o om ic pc ac gg gdt im pm am gm gs) (hv : v ≤ 32767) (hv1 : v ≠ 1) :
    ∃ F' n' u' o' om' ic' pc' ac' gg' gdt' im' pm' am' gm' gs', ex_FontShelf_manage N o ic pc gg gdt ac (nI v) = some (o', ic', pc', gg', gdt', ac') ∧ slR F' n' u' o' om' ic' pc' ac' gg' gdt' im' pm' am' gm' gs' ∧ fd_FontShelf_chosenKnown o' = 0 ∧ (v ≤ 3 → ∃ cnt, ex_mShelf_drop N om im am pm gm gs (nI v) = some (om', im', am', pm', gm', gs', cnt)) ∧ ((v = 4 ∨ v = 5) → ∃ c, ex_mShelf_permanent N om im pm (nI (v - 4)) = some (om', pm', c) ∧ im' = im ∧ am' = am ∧ gm' = gm ∧ gs' = gs) ∧ (6 ≤ v → om' = om ∧ im' = im ∧ pm' = pm ∧ am' = am ∧ gm' = gm ∧ gs' = gs) := by
  have h0 := h
  obtain ⟨hK, o1, o2, o3, m1, m2, m3, hi, hc⟩ := h
  have k1 := hK.1
  have hn := hK.2.2.2.2.2.2.2.1.1.1
  have eC : nI F - 1 = iI ((F : Int) - 1) := by rw [nI_iI, iI_lit, iI_sub]; rfl
  have o1' : fd_FontShelf_fonts (fs_FontShelf_chosenKnown o 0) = nI F := o1
  have o2' : fd_FontShelf_glyphCount (fs_FontShelf_chosenKnown o 0) = nI n := o2
  have o3' : fd_FontShelf_used (fs_FontShelf_chosenKnown o 0) = nI u := o3
  have m1' : fd_mShelf_fonts (fs_mShelf_loading (fs_mShelf_thrown om 0) 0) = nI F := m1
  have m2' : fd_mShelf_glyphs (fs_mShelf_loading (fs_mShelf_thrown om 0) 0) = nI n := m2
  have m3' : fd_mShelf_used (fs_mShelf_loading (fs_mShelf_thrown om 0) 0) = nI u := m3
  have hsl := sl_slot (N := N) (o := o) (om := fs_mShelf_thrown om 0) (fd_FontShelf_id o) (by omega) hK o1 m1
  unfold ex_FontShelf_manage
  by_cases q0 : v = 0
  · subst q0
    obtain ⟨im', pm', am', gm', gs', cnt', e1, e2⟩ := sl_all (N := N) hN F N n u (fs_mShelf_loading (fs_mShelf_thrown om 0) 0) ic pc ac gg gdt im pm am gm gs 0 (by omega) hK m1' m2' m3'
    refine ⟨0, 0, 0, fs_FontShelf_chosenKnown (fs_FontShelf_used (fs_FontShelf_glyphCount (fs_FontShelf_fonts o 0) 0) 0) 0, msO (fs_mShelf_loading (fs_mShelf_thrown om 0) 0) 0 0 0, ic, pc, ac, gg, gdt, im', pm', am', gm', gs', ?_, ⟨slK_none hK e2, rfl, rfl, rfl, rfl, rfl, rfl, hi, hc⟩, rfl, fun _ => ⟨cnt', ?_⟩, fun hh => by omega, fun hh => by omega⟩
    · rcases hsl with ⟨s, _, _, hs, _⟩ | ⟨_, hs, _⟩
      · rw [hs]; rfl
      · rw [hs]; rfl
    · unfold ex_mShelf_drop
      rw [if_neg (show ¬ nI 0 < 0 by decide), if_pos (show nI 0 ≤ 3 by decide), if_neg (show ¬ nI 0 = 3 by decide), m1, eC]
      have e1' : lp_mShelf_drop_72 N (nI 0) N (iI ((F : Int) - 1)) 0 (fs_mShelf_loading (fs_mShelf_thrown om 0) 0) im am pm gm gs = some (cnt', msO (fs_mShelf_loading (fs_mShelf_thrown om 0) 0) 0 0 0, im', am', pm', gm', gs') := e1
      rw [e1']; rfl
  have n0 : ¬ nI v = 0 := nI_ne0 (by omega) (by omega)
  by_cases q2 : v = 2
  · subst q2
    rcases hsl with ⟨s, hs1, hs2, hs3, _⟩ | ⟨hno, hs3, _⟩
    · obtain ⟨F, rfl⟩ : ∃ z, F = z + 1 := ⟨F - 1, by omega⟩
      obtain ⟨n', u', ic', pc', ac', gg', gdt', im', pm', am', gm', gs', e1, e2, e3⟩ := sl_one (N := N) (k := fd_FontShelf_id o) (o := fs_FontShelf_chosenKnown o 0) (om := fs_mShelf_loading (fs_mShelf_thrown om 0) 0) hN hK hs1 hs2 hi.symm o1' o2' o3' m1' m2' m3'
      obtain ⟨cnt', e2⟩ := e2 0
      refine ⟨F, n', u', fsO (fs_FontShelf_chosenKnown o 0) F n' u', msO (fs_mShelf_loading (fs_mShelf_thrown om 0) 0) F n' u', ic', pc', ac', gg', gdt', im', pm', am', gm', gs', ?_, ⟨e3, rfl, rfl, rfl, rfl, rfl, rfl, hi, hc⟩, rfl, fun _ => ⟨cnt', ?_⟩, fun hh => by omega, fun hh => by omega⟩
      · rw [hs3]
        simp only [Option.bind_some]
        rw [if_neg n0, if_pos (show nI 2 = 2 from rfl), e1]; rfl
      · unfold ex_mShelf_drop
        rw [if_neg (show ¬ nI 2 < 0 by decide), if_pos (show nI 2 ≤ 3 by decide), if_neg (show ¬ nI 2 = 3 by decide), m1, eC]
        have e2' : lp_mShelf_drop_72 N (nI 2) N (iI (((F + 1 : Nat) : Int) - 1)) 0 (fs_mShelf_loading (fs_mShelf_thrown om 0) 0) im am pm gm gs = _ := e2
        rw [e2']; rfl
    · refine ⟨F, n, u, fs_FontShelf_chosenKnown o 0, fs_mShelf_loading (fs_mShelf_thrown om 0) 0, ic, pc, ac, gg, gdt, im, pm, am, gm, gs, ?_, ⟨hK, o1, o2, o3, m1, m2, m3, hi, hc⟩, rfl, fun _ => ⟨0, ?_⟩, fun hh => by omega, fun hh => by omega⟩
      · rw [hs3]
        simp only [Option.bind_some]
        rw [if_neg n0, if_pos (show nI 2 = 2 from rfl)]
        unfold ex_FontShelf_removeFont
        rw [if_pos (show (-1 : Int32) < 0 by decide)]; rfl
      · unfold ex_mShelf_drop
        have e2' : lp_mShelf_drop_72 N (nI 2) N (iI ((F : Int) - 1)) 0 (fs_mShelf_loading (fs_mShelf_thrown om 0) 0) im am pm gm gs = _ := ms_skip (N := N) (k := fd_FontShelf_id o) F N (fs_mShelf_loading (fs_mShelf_thrown om 0) 0) im pm am gm gs 0 (by omega) (by omega) hi.symm (fun i hi2 => by rw [← hK.2.1 i hi2]; exact hno i hi2)
        rw [if_neg (show ¬ nI 2 < 0 by decide), if_pos (show nI 2 ≤ 3 by decide), if_neg (show ¬ nI 2 = 3 by decide), m1, eC, e2']; rfl
  have n2 : ¬ nI v = 2 := mt (nI_eq (b := 2) (by omega) (by omega)).mp q2
  by_cases q3 : v = 3
  · subst q3
    have hs3 : ∃ z, ex_FontShelf_slotOf N o ic (fd_FontShelf_id o) = some z := by
      rcases hsl with ⟨s, _, _, hs, _⟩ | ⟨_, hs, _⟩
      · exact ⟨_, hs⟩
      · exact ⟨_, hs⟩
    obtain ⟨z, hs3⟩ := hs3
    have hgl := sl_glyph (N := N) (o := fs_FontShelf_chosenKnown o 0) (om := fs_mShelf_loading (fs_mShelf_thrown om 0) 0) (fd_FontShelf_id o) (fd_FontShelf_code o) (by omega) hK o2' m2'
    rcases hgl with ⟨c, e, hc1, he1, hk, hce, g1, g2⟩ | ⟨_, _, g1, g2⟩
    · obtain ⟨n, rfl⟩ : ∃ z, n = z + 1 := ⟨n - 1, by omega⟩
      obtain ⟨u', gg', gdt', gm', gs', e1, e2, e3, _, _⟩ := sl_rem (N := N) (o := fs_FontShelf_chosenKnown o 0) (om := fs_mShelf_loading (fs_mShelf_thrown om 0) 0) hN hK hc1 he1 hce o2' o3' m2' m3'
      refine ⟨F, n, u', fs_FontShelf_used (fs_FontShelf_glyphCount (fs_FontShelf_chosenKnown o 0) (nI n)) (nI u'), fs_mShelf_used (fs_mShelf_glyphs (fs_mShelf_loading (fs_mShelf_thrown om 0) 0) (nI n)) (nI u'), ic, pc, ac, gg', gdt', im, pm, am, gm', gs', ?_, ⟨e3, o1, rfl, rfl, m1, rfl, rfl, hi, hc⟩, rfl, fun _ => ⟨1, ?_⟩, fun hh => by omega, fun hh => by omega⟩
      · rw [hs3]
        simp only [Option.bind_some]
        rw [if_neg n0, if_neg n2, if_pos (show nI 3 = 3 from rfl), g1]
        simp only [Option.bind_some]
        rw [e1]; rfl
      · unfold ex_mShelf_drop
        rw [← hi, ← hc, if_neg (show ¬ nI 3 < 0 by decide), if_pos (show nI 3 ≤ 3 by decide), if_pos (show nI 3 = 3 from rfl), g2]
        simp only [Option.bind_some]
        rw [if_neg (nI_pos (by omega)), e2]; rfl
    · refine ⟨F, n, u, fs_FontShelf_chosenKnown o 0, fs_mShelf_loading (fs_mShelf_thrown om 0) 0, ic, pc, ac, gg, gdt, im, pm, am, gm, gs, ?_, ⟨hK, o1, o2, o3, m1, m2, m3, hi, hc⟩, rfl, fun _ => ⟨0, ?_⟩, fun hh => by omega, fun hh => by omega⟩
      · rw [hs3]
        simp only [Option.bind_some]
        rw [if_neg n0, if_neg n2, if_pos (show nI 3 = 3 from rfl), g1]
        simp only [Option.bind_some]
        unfold ex_FontShelf_removeGlyph
        rw [if_pos (show (-1 : Int32) < 0 by decide)]; rfl
      · unfold ex_mShelf_drop
        rw [← hi, ← hc, if_neg (show ¬ nI 3 < 0 by decide), if_pos (show nI 3 ≤ 3 by decide), if_pos (show nI 3 = 3 from rfl), g2]
        simp only [Option.bind_some]
        rw [if_pos (show (-1 : Int32) < 0 by decide)]
  have n3 : ¬ nI v = 3 := mt (nI_eq (b := 3) (by omega) (by omega)).mp q3
  by_cases q45 : v = 4 ∨ v = 5
  · have hx : nI (v - 4) = 0 ∨ nI (v - 4) = 1 := by rcases q45 with rfl | rfl; exact Or.inl rfl; exact Or.inr rfl
    rcases hsl with ⟨s, hs1, hs2, hs3, hs4⟩ | ⟨hno, hs3, hs4⟩
    · refine ⟨F, n, u, fs_FontShelf_chosenKnown o 0, fs_mShelf_thrown om 0, ic, upd pc s (nI (v - 4)), ac, gg, gdt, im, upd pm s (nI (v - 4)), am, gm, gs, ?_, ⟨slK_perm hK hx, o1, o2, o3, m1, m2, m3, hi, hc⟩, rfl, fun hh => by omega, fun _ => ?_, fun hh => by omega⟩
      · rw [hs3]
        simp only [Option.bind_some]
        rw [if_neg n0, if_neg n2, if_neg n3]
        have hin : dk_in (nI s) 32 := dk_in_nI (by omega) (by omega)
        have hcl : (nI s).toNatClampNeg = s := nI_clamp (by omega)
        rcases q45 with rfl | rfl
        · rw [if_pos (show nI 4 = 4 from rfl), if_neg (nI_pos (by omega)), if_neg (show ¬ nI 4 = 5 by decide), if_pos hin, hcl]; rfl
        · rw [if_neg (show ¬ nI 5 = 4 by decide), if_pos (show nI 5 = 5 from rfl), if_neg (nI_pos (by omega)), if_pos (show nI 5 = 5 from rfl), if_pos hin, hcl]; rfl
      · unfold ex_mShelf_permanent
        rw [← hi, hs4]
        simp only [Option.bind_some]
        have hin : dk_in (nI s) 33 := dk_in_nI (by omega) (by omega)
        have hcl : (nI s).toNatClampNeg = s := nI_clamp (by omega)
        rw [if_neg (nI_pos (by omega)), if_pos (show (0 : Int32) ≤ nI s from nI_le (a := 0) (by omega) (by omega)), if_pos hin]
        by_cases qe : pm s = nI (v - 4)
        · rw [if_pos (by rw [hcl]; exact qe)]
          refine ⟨0, ?_, by trivial, by trivial, by trivial, by trivial⟩
          rw [← qe, upd_id]
        · rw [if_neg (by rw [hcl]; exact qe), if_pos hin, hcl, bo1_nar hx]
          exact ⟨1, rfl, by trivial, by trivial, by trivial, by trivial⟩
    · refine ⟨F, n, u, fs_FontShelf_chosenKnown o 0, fs_mShelf_thrown om 0, ic, pc, ac, gg, gdt, im, pm, am, gm, gs, ?_, ⟨hK, o1, o2, o3, m1, m2, m3, hi, hc⟩, rfl, fun hh => by omega, fun _ => ⟨0, ?_, rfl, rfl, rfl, rfl⟩, fun hh => by omega⟩
      · rw [hs3]
        simp only [Option.bind_some]
        rw [if_neg n0, if_neg n2, if_neg n3]
        rcases q45 with rfl | rfl
        · rw [if_pos (show nI 4 = 4 from rfl), if_pos (show (-1 : Int32) < 0 by decide)]
        · rw [if_neg (show ¬ nI 5 = 4 by decide), if_pos (show nI 5 = 5 from rfl), if_pos (show (-1 : Int32) < 0 by decide)]
      · unfold ex_mShelf_permanent
        rw [← hi, hs4]
        simp only [Option.bind_some]
        rw [if_pos (show (-1 : Int32) < 0 by decide)]
  · have n4 : ¬ nI v = 4 := mt (nI_eq (b := 4) (by omega) (by omega)).mp (by omega)
    have n5 : ¬ nI v = 5 := mt (nI_eq (b := 5) (by omega) (by omega)).mp (by omega)
    refine ⟨F, n, u, fs_FontShelf_chosenKnown o 0, om, ic, pc, ac, gg, gdt, im, pm, am, gm, gs, ?_, ⟨hK, o1, o2, o3, m1, m2, m3, hi, hc⟩, rfl, fun hh => by omega, fun hh => absurd hh q45, fun _ => ⟨rfl, rfl, rfl, rfl, rfl, rfl⟩⟩
    rcases hsl with ⟨s, _, _, hs, _⟩ | ⟨_, hs, _⟩
    · rw [hs]
      simp only [Option.bind_some]
      rw [if_neg n0, if_neg n2, if_neg n3, if_neg n4, if_neg n5]
    · rw [hs]
      simp only [Option.bind_some]
      rw [if_neg n0, if_neg n2, if_neg n3, if_neg n4, if_neg n5]
def s16 (A : Nat) : Int := if A < 32768 then (A : Int) else (A : Int) - 65536
def pr (gd : Nat → Int32) (a : Nat) : Nat := 256 * u8 (gd a) + u8 (gd (a + 1))
set_option maxRecDepth 100000 in
theorem shl8_tab : ∀ n, n < 256 → ((Int8.ofNat n).toInt32 <<< ((8 : Int32) &&& 31)) = iI (256 * (if n < 128 then (n : Int) else (n : Int) - 256)) := by decide +kernel
set_option maxRecDepth 100000 in
theorem low8_tab : ∀ n, n < 256 → ∀ i, i < 8 → (((Int8.ofNat n).toInt32 <<< ((8 : Int32) &&& 31)).toBitVec).getLsbD i = false := by decide +kernel
theorem or_add (x y : Int32) (h : ∀ i, i < 8 → x.toBitVec.getLsbD i = false) : x ||| (y &&& 255) = x + (y &&& 255) := by
  have hz : x.toBitVec &&& (y &&& 255).toBitVec = 0#32 := by
    apply BitVec.eq_of_getLsbD_eq
    intro i hi
    rw [BitVec.getLsbD_and, Int32.toBitVec_and, BitVec.getLsbD_and]
    by_cases q : i < 8
    · rw [h i q]; simp
    · have : (255 : Int32).toBitVec.getLsbD i = false := by
        have t : ∀ i, i < 32 → ¬ i < 8 → (255 : Int32).toBitVec.getLsbD i = false := by decide +kernel
        exact t i hi q
      rw [this]; simp
  apply Int32.toBitVec_inj.mp
  rw [Int32.toBitVec_or, Int32.toBitVec_add]
  exact (BitVec.add_eq_or_of_and_eq_zero _ _ hz).symm
set_option maxRecDepth 100000 in
theorem u8_of_tab : ∀ n, n < 256 → u8 (Int8.ofNat n).toInt32 = n := by decide +kernel
theorem is8_of (n : Nat) : is8 (Int8.ofNat n).toInt32 := by
  have := is8_to (Int8.ofNat n).toInt32
  rwa [Int8.toInt8_toInt32] at this
theorem is8_back {v : Int32} (h : is8 v) : v = (Int8.ofNat (u8 v)).toInt32 := u8_inj h (is8_of _) (u8_of_tab _ (u8_lt v)).symm
theorem pair_c {N m a : Nat} {gd gs : Nat → Int32} (h : dtR m gd gs) (ha : a + 1 < m) : ex_FontShelf_pairAt N 4096 gd (nI a) = some (iI (s16 (pr gd a))) := by
  have hm := h.1
  have e1 : nI a + 1 = nI (a + 1) := nI_addL a 1
  have h8 := (h.2 a (by omega)).1
  have hl := u8_lt (gd a)
  have hl2 := u8_lt (gd (a + 1))
  unfold ex_FontShelf_pairAt
  rw [e1, if_pos (dk_in_nI (by omega) (by omega)), if_pos (dk_in_nI (by omega) (by omega)), nI_clamp (by omega), nI_clamp (by omega), dk_let]
  have hb := is8_back h8
  have es : gd a <<< ((8 : Int32) &&& 31) = iI (256 * (if u8 (gd a) < 128 then ((u8 (gd a) : Nat) : Int) else ((u8 (gd a) : Nat) : Int) - 256)) := by
    have := shl8_tab _ hl
    rw [← hb] at this; exact this
  have hlow : ∀ i, i < 8 → (gd a <<< ((8 : Int32) &&& 31)).toBitVec.getLsbD i = false := by
    have := low8_tab _ hl
    rw [← hb] at this; exact this
  rw [or_add _ _ hlow, es, u8_and, nI_iI, iI_add]
  congr 2
  unfold s16 pr
  by_cases q : u8 (gd a) < 128
  · rw [if_pos q, if_pos (by omega)]; omega
  · rw [if_neg q, if_neg (by omega)]; omega
theorem pair_m {N m a : Nat} {or : ob_Ref} {od : ob_mDesk} {gd gs : Nat → Int32} (h : dtR m gd gs) (ha : a + 1 < m) : ex_Ref_datum2 N or od gs (nI a) = some (nI (pr gd a)) := by
  have e1 : nI a + 1 = nI (a + 1) := nI_addL a 1
  unfold ex_Ref_datum2
  rw [e1, rs_dat h (by omega), rs_dat h ha]
  simp only [Option.bind_some]
  rw [nI_Lmul, nI_add]; rfl
theorem pr_lt (gd : Nat → Int32) (a : Nat) : pr gd a < 65536 := by
  have := u8_lt (gd a); have := u8_lt (gd (a + 1)); unfold pr; omega
theorem to16 {A : Nat} (h : A < 65536) : (nI A).toInt16.toInt32 = iI (s16 A) := by
  apply Int32.toInt_inj.mp
  rw [Int16.toInt_toInt32, Int32.toInt_toInt16, nI_toInt (by omega), iI_toInt (by unfold s16; split <;> omega)]
  unfold s16
  by_cases q : A < 32768
  · rw [if_pos q]; exact Int.bmod_eq_of_le (by omega) (by omega)
  · rw [if_neg q]
    rw [Int.bmod_def]
    split <;> omega
