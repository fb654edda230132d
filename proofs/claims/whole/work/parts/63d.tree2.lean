set_option maxRecDepth 100000 in
theorem wf_m : wFrom (fun w => tb_Coder_SHIFTS w.toNatClampNeg) (fun w => w) 7 7 = [(130, 0), (66, 1), (10, 2), (3, 3), (11, 4), (67, 5), (131, 6)] := by decide +kernel
set_option maxRecDepth 100000 in
theorem wf_wr : wFrom (fun w => tb_Coder_WHITE_RESTS w.toNatClampNeg) (fun w => w) 64 64 = [(309, 0), (71, 1), (23, 2), (24, 3), (27, 4), (28, 5), (30, 6), (31, 7), (51, 8), (52, 9), (39, 10), (40, 11), (72, 12), (67, 13), (116, 14), (117, 15), (106, 16), (107, 17), (167, 18), (140, 19), (136, 20), (151, 21), (131, 22), (132, 23), (168, 24), (171, 25), (147, 26), (164, 27), (152, 28), (258, 29), (259, 30), (282, 31), (283, 32), (274, 33), (275, 34), (276, 35), (277, 36), (278, 37), (279, 38), (296, 39), (297, 40), (298, 41), (299, 42), (300, 43), (301, 44), (260, 45), (261, 46), (266, 47), (267, 48), (338, 49), (339, 50), (340, 51), (341, 52), (292, 53), (293, 54), (344, 55), (345, 56), (346, 57), (347, 58), (330, 59), (331, 60), (306, 61), (307, 62), (308, 63)] := by decide +kernel
set_option maxRecDepth 100000 in
theorem wf_wb : wFrom (fun w => tb_Coder_WHITE_BLOCKS w.toNatClampNeg) (fun w => 64 + (64 * w)) 27 27 = [(59, 64), (50, 128), (87, 192), (183, 256), (310, 320), (311, 384), (356, 448), (357, 512), (360, 576), (359, 640), (716, 704), (717, 768), (722, 832), (723, 896), (724, 960), (725, 1024), (726, 1088), (727, 1152), (728, 1216), (729, 1280), (730, 1344), (731, 1408), (664, 1472), (665, 1536), (666, 1600), (88, 1664), (667, 1728)] := by decide +kernel
set_option maxRecDepth 100000 in
theorem wf_br : wFrom (fun w => tb_Coder_BLACK_RESTS w.toNatClampNeg) (fun w => w) 64 64 = [(1079, 0), (10, 1), (7, 2), (6, 3), (11, 4), (19, 5), (18, 6), (35, 7), (69, 8), (68, 9), (132, 10), (133, 11), (135, 12), (260, 13), (263, 14), (536, 15), (1047, 16), (1048, 17), (1032, 18), (2151, 19), (2152, 20), (2156, 21), (2103, 22), (2088, 23), (2071, 24), (2072, 25), (4298, 26), (4299, 27), (4300, 28), (4301, 29), (4200, 30), (4201, 31), (4202, 32), (4203, 33), (4306, 34), (4307, 35), (4308, 36), (4309, 37), (4310, 38), (4311, 39), (4204, 40), (4205, 41), (4314, 42), (4315, 43), (4180, 44), (4181, 45), (4182, 46), (4183, 47), (4196, 48), (4197, 49), (4178, 50), (4179, 51), (4132, 52), (4151, 53), (4152, 54), (4135, 55), (4136, 56), (4184, 57), (4185, 58), (4139, 59), (4140, 60), (4186, 61), (4198, 62), (4199, 63)] := by decide +kernel
set_option maxRecDepth 100000 in
theorem wf_bb : wFrom (fun w => tb_Coder_BLACK_BLOCKS w.toNatClampNeg) (fun w => 64 + (64 * w)) 27 27 = [(1039, 64), (4296, 128), (4297, 192), (4187, 256), (4147, 320), (4148, 384), (4149, 448), (8300, 512), (8301, 576), (8266, 640), (8267, 704), (8268, 768), (8269, 832), (8306, 896), (8307, 960), (8308, 1024), (8309, 1088), (8310, 1152), (8311, 1216), (8274, 1280), (8275, 1344), (8276, 1408), (8277, 1472), (8282, 1536), (8283, 1600), (8292, 1664), (8293, 1728)] := by decide +kernel
set_option maxRecDepth 100000 in
theorem wf_lb : wFrom (fun w => tb_Coder_LONG_BLOCKS w.toNatClampNeg) (fun w => 1792 + (64 * w)) 13 13 = [(2056, 1792), (2060, 1856), (2061, 1920), (4114, 1984), (4115, 2048), (4116, 2112), (4117, 2176), (4118, 2240), (4119, 2304), (4124, 2368), (4125, 2432), (4126, 2496), (4127, 2560)] := by decide +kernel
theorem md_ok {v0 nd0 nd1 nd2 : Int32} {l0 l1 l2 : List Int32} (hl : l0.length = 1024) (h1 : aFold 200 v0 [(17, 20), (9, 21)] (rdO nd0) l0 = some (rdO nd1, l1)) (h2 : aFold 200 v0 [(130, 0), (66, 1), (10, 2), (3, 3), (11, 4), (67, 5), (131, 6)] (rdO nd1) l1 = some (rdO nd2, l2)) : ex_LineReader_addModes 200 (rdO nd0) (lsT l0) v0 = some (rdO nd2, lsT l2) ∧ l2.length = 1024 := by
  obtain ⟨a, ha, h1⟩ := Option.bind_eq_some_iff.mp (show (aWord 200 (rdO nd0) l0 v0 17 20).bind (fun u => aFold 200 v0 [(9, 21)] u.1 u.2) = some (rdO nd1, l1) from h1)
  obtain ⟨b, hb, h1⟩ := Option.bind_eq_some_iff.mp (show (aWord 200 a.1 a.2 v0 9 21).bind (fun u => aFold 200 v0 [] u.1 u.2) = some (rdO nd1, l1) from h1)
  have hbb : b = (rdO nd1, l1) := Option.some.inj h1
  subst hbb
  obtain ⟨a1, a2⟩ := aWord_ok hl ha
  obtain ⟨b1, b2⟩ := aWord_ok a2 hb
  rw [← wf_m] at h2
  obtain ⟨c1, c2⟩ := gLp_fold (by omega) 7 200 _ _ _ (Nat.le_refl _) (by omega) b2 h2
  refine ⟨?_, c2⟩
  unfold ex_LineReader_addModes
  refine (bind_eq a1).trans ?_
  refine (bind_eq b1).trans ?_
  refine (bind_eq ((lpg_m _ _ _ _).trans c1)).trans ?_
  rfl
set_option maxRecDepth 100000 in
theorem rn_w {v0 nd0 nd1 nd2 nd3 : Int32} {l0 l1 l2 l3 : List Int32} (hl : l0.length = 1024) (h1 : aFold 200 v0 [(309, 0), (71, 1), (23, 2), (24, 3), (27, 4), (28, 5), (30, 6), (31, 7), (51, 8), (52, 9), (39, 10), (40, 11), (72, 12), (67, 13), (116, 14), (117, 15), (106, 16), (107, 17), (167, 18), (140, 19), (136, 20), (151, 21), (131, 22), (132, 23), (168, 24), (171, 25), (147, 26), (164, 27), (152, 28), (258, 29), (259, 30), (282, 31), (283, 32), (274, 33), (275, 34), (276, 35), (277, 36), (278, 37), (279, 38), (296, 39), (297, 40), (298, 41), (299, 42), (300, 43), (301, 44), (260, 45), (261, 46), (266, 47), (267, 48), (338, 49), (339, 50), (340, 51), (341, 52), (292, 53), (293, 54), (344, 55), (345, 56), (346, 57), (347, 58), (330, 59), (331, 60), (306, 61), (307, 62), (308, 63)] (rdO nd0) l0 = some (rdO nd1, l1)) (h2 : aFold 200 v0 [(59, 64), (50, 128), (87, 192), (183, 256), (310, 320), (311, 384), (356, 448), (357, 512), (360, 576), (359, 640), (716, 704), (717, 768), (722, 832), (723, 896), (724, 960), (725, 1024), (726, 1088), (727, 1152), (728, 1216), (729, 1280), (730, 1344), (731, 1408), (664, 1472), (665, 1536), (666, 1600), (88, 1664), (667, 1728)] (rdO nd1) l1 = some (rdO nd2, l2)) (h3 : aFold 200 v0 [(2056, 1792), (2060, 1856), (2061, 1920), (4114, 1984), (4115, 2048), (4116, 2112), (4117, 2176), (4118, 2240), (4119, 2304), (4124, 2368), (4125, 2432), (4126, 2496), (4127, 2560)] (rdO nd2) l2 = some (rdO nd3, l3)) : ex_LineReader_addRuns_WHITE_RESTS_WHITE_BLOCKS 200 (rdO nd0) (lsT l0) v0 = some (rdO nd3, lsT l3) ∧ l3.length = 1024 := by
  rw [← wf_wr] at h1
  rw [← wf_wb] at h2
  rw [← wf_lb] at h3
  obtain ⟨a1, a2⟩ := gLp_fold (by omega) 64 200 _ _ _ (Nat.le_refl _) (by omega) hl h1
  obtain ⟨b1, b2⟩ := gLp_fold (by omega) 27 200 _ _ _ (Nat.le_refl _) (by omega) a2 h2
  obtain ⟨c1, c2⟩ := gLp_fold (by omega) 13 200 _ _ _ (Nat.le_refl _) (by omega) b2 h3
  refine ⟨?_, c2⟩
  unfold ex_LineReader_addRuns_WHITE_RESTS_WHITE_BLOCKS
  refine (bind_eq ((lpg_w1 _ _ _ _).trans a1)).trans ?_
  refine (bind_eq ((lpg_w2 _ _ _ _).trans b1)).trans ?_
  refine (bind_eq ((lpg_w3 _ _ _ _).trans c1)).trans ?_
  rfl
set_option maxRecDepth 100000 in
theorem rn_b {v0 nd0 nd1 nd2 nd3 : Int32} {l0 l1 l2 l3 : List Int32} (hl : l0.length = 1024) (h1 : aFold 200 v0 [(1079, 0), (10, 1), (7, 2), (6, 3), (11, 4), (19, 5), (18, 6), (35, 7), (69, 8), (68, 9), (132, 10), (133, 11), (135, 12), (260, 13), (263, 14), (536, 15), (1047, 16), (1048, 17), (1032, 18), (2151, 19), (2152, 20), (2156, 21), (2103, 22), (2088, 23), (2071, 24), (2072, 25), (4298, 26), (4299, 27), (4300, 28), (4301, 29), (4200, 30), (4201, 31), (4202, 32), (4203, 33), (4306, 34), (4307, 35), (4308, 36), (4309, 37), (4310, 38), (4311, 39), (4204, 40), (4205, 41), (4314, 42), (4315, 43), (4180, 44), (4181, 45), (4182, 46), (4183, 47), (4196, 48), (4197, 49), (4178, 50), (4179, 51), (4132, 52), (4151, 53), (4152, 54), (4135, 55), (4136, 56), (4184, 57), (4185, 58), (4139, 59), (4140, 60), (4186, 61), (4198, 62), (4199, 63)] (rdO nd0) l0 = some (rdO nd1, l1)) (h2 : aFold 200 v0 [(1039, 64), (4296, 128), (4297, 192), (4187, 256), (4147, 320), (4148, 384), (4149, 448), (8300, 512), (8301, 576), (8266, 640), (8267, 704), (8268, 768), (8269, 832), (8306, 896), (8307, 960), (8308, 1024), (8309, 1088), (8310, 1152), (8311, 1216), (8274, 1280), (8275, 1344), (8276, 1408), (8277, 1472), (8282, 1536), (8283, 1600), (8292, 1664), (8293, 1728)] (rdO nd1) l1 = some (rdO nd2, l2)) (h3 : aFold 200 v0 [(2056, 1792), (2060, 1856), (2061, 1920), (4114, 1984), (4115, 2048), (4116, 2112), (4117, 2176), (4118, 2240), (4119, 2304), (4124, 2368), (4125, 2432), (4126, 2496), (4127, 2560)] (rdO nd2) l2 = some (rdO nd3, l3)) : ex_LineReader_addRuns_BLACK_RESTS_BLACK_BLOCKS 200 (rdO nd0) (lsT l0) v0 = some (rdO nd3, lsT l3) ∧ l3.length = 1024 := by
  rw [← wf_br] at h1
  rw [← wf_bb] at h2
  rw [← wf_lb] at h3
  obtain ⟨a1, a2⟩ := gLp_fold (by omega) 64 200 _ _ _ (Nat.le_refl _) (by omega) hl h1
  obtain ⟨b1, b2⟩ := gLp_fold (by omega) 27 200 _ _ _ (Nat.le_refl _) (by omega) a2 h2
  obtain ⟨c1, c2⟩ := gLp_fold (by omega) 13 200 _ _ _ (Nat.le_refl _) (by omega) b2 h3
  refine ⟨?_, c2⟩
  unfold ex_LineReader_addRuns_BLACK_RESTS_BLACK_BLOCKS
  refine (bind_eq ((lpg_b1 _ _ _ _).trans a1)).trans ?_
  refine (bind_eq ((lpg_b2 _ _ _ _).trans b1)).trans ?_
  refine (bind_eq ((lpg_b3 _ _ _ _).trans c1)).trans ?_
  rfl
theorem fold1 {v0 : Int32} {q : Int32 × Int32} {o : ob_LineReader} {l : List Int32} {r : ob_LineReader × List Int32} (h : aFold 200 v0 [q] o l = some r) : aWord 200 o l v0 q.1 q.2 = some r := by
  obtain ⟨u, hu, h⟩ := Option.bind_eq_some_iff.mp (show (aWord 200 o l v0 q.1 q.2).bind (fun u => aFold 200 v0 [] u.1 u.2) = some r from h)
  have e : u = r := Option.some.inj h
  rw [← e]
  exact hu
theorem pdI_len {l : List Int} (h : l.length ≤ 1024) : (pdI l).length = 1024 := by unfold pdI; rw [List.length_append, List.length_map, List.length_replicate]; omega
set_option maxRecDepth 100000 in
theorem tr_all : ex_LineReader_addModes 200 (rdO 5) (lsT (pdI [])) 0 = some (rdO 13, lsT (pdI tL2)) ∧ ex_LineReader_addModes 200 (rdO 13) (lsT (pdI tL2)) 1 = some (rdO 21, lsT (pdI tL4)) ∧ ex_LineReader_addWord 200 (rdO 21) (lsT (pdI tL4)) 0 4097 22 = some (rdO 27, lsT (pdI tL5)) ∧ ex_LineReader_addWord 200 (rdO 27) (lsT (pdI tL5)) 2 4097 22 = some (rdO 38, lsT (pdI tL6)) ∧ ex_LineReader_addRuns_WHITE_RESTS_WHITE_BLOCKS 200 (rdO 38) (lsT (pdI tL6)) 3 = some (rdO 141, lsT (pdI tL20)) ∧ ex_LineReader_addRuns_BLACK_RESTS_BLACK_BLOCKS 200 (rdO 141) (lsT (pdI tL20)) 4 = some (rdO 244, lsT (pdI tL34)) := by
  have z : (pdI []).length = 1024 := pdI_len (Nat.zero_le _)
  obtain ⟨a1, a2⟩ := md_ok z tB_m0a tB_m0b
  obtain ⟨b1, b2⟩ := md_ok a2 tB_m1a tB_m1b
  obtain ⟨c1, c2⟩ := aWord_ok b2 (fold1 tB_w0)
  obtain ⟨d1, d2⟩ := aWord_ok c2 (fold1 tB_w2)
  obtain ⟨e1, e2⟩ := rn_w d2 tB_rw1 tB_rw2 tB_rw3
  obtain ⟨f1, f2⟩ := rn_b e2 tB_rb1 tB_rb2 tB_rb3
  exact ⟨a1, b1, c1, d1, e1, f1⟩
theorem lsT_pdI {l : List Int} (i : Nat) : lsT (pdI l) i = iI (l.getD i 0) := by
  show (l.map iI ++ List.replicate (1024 - l.length) 0).getD i 0 = _
  rw [List.getD_eq_getElem?_getD, List.getD_eq_getElem?_getD]
  rcases Nat.lt_or_ge i l.length with q | q
  · rw [List.getElem?_append_left (by rw [List.length_map]; exact q), List.getElem?_map, List.getElem?_eq_getElem q]; rfl
  · rw [List.getElem?_append_right (by rw [List.length_map]; exact q), List.getElem?_replicate, List.getElem?_eq_none q]
    split <;> rfl
set_option maxRecDepth 100000 in
theorem tL_end : tL34 = trL := by decide +kernel
theorem tr_end : agree 1024 (lsT (pdI tL34)) trT := fun i _ => by rw [lsT_pdI, tL_end]; rfl
theorem tr_0Z : lsT (pdI []) = fun _ => 0 := by
  funext i
  show (List.replicate 1024 (0 : Int32)).getD i 0 = 0
  rw [List.getD_eq_getElem?_getD, List.getElem?_replicate]
  split <;> rfl
