/-! the law's cases: by program -/
def LJ (D : va_G) (c : Nat → ClassId) (g : Nat × Nat) (aX aM : Nat → Nat → Nat) (s u : St) : Heap → Prop := fun H => ZW D c aX g (exX g) s H ∧ ZW D c aM g (exM g) u H
def LAd (sz : Nat) (ad : Nat → Nat → Nat) (g : Nat × Nat) (aX aM : Nat → Nat → Nat) : Prop := (∀ t k : Nat, exX g t k → sz ≤ aX t k) ∧ (∀ t k : Nat, exM g t k → sz ≤ aM t k) ∧ (∀ t k t' k' : Nat, exX g t k → exX g t' k' → aX t k = aX t' k' → t = t' ∧ k = k') ∧ (∀ t k t' k' : Nat, exM g t k → exM g t' k' → aM t k = aM t' k' → t = t' ∧ k = k') ∧ (∀ t k t' k' : Nat, exX g t k → exM g t' k' → aX t k ≠ aM t' k') ∧ (∀ t k : Nat, 100 ≤ t → aX t k = ad t k) ∧ ∀ t k : Nat, 100 ≤ t → aM t k = ad t k
section LCS
variable {l : Launch} {b L : Nat} {xs : Nat → Int32} {D : va_G} {c : Nat → ClassId} {ad : Nat → Nat → Nat} {sz kc ks pc : Nat} {lv : List (Nat × Value)} {st : List Value} {g : Nat × Nat} {aX aM : Nat → Nat → Nat} {s u : St}
theorem l_callX (hAd : LAd sz ad g aX aM) {y : MethodName} {N : MI} {idx : Nat} {As rest : List Value} {r : Int32} {s' : St} (hl0 : LkV R_law idx y 0 N As.length) (hf : (mD N + 1 ≤ 2048 ∧ 8 + (mL N + 11) + 40 * mD N ≤ 84000) ∧ kc + mK N ≤ 600000 ∧ ks + mN N ≤ 7302250) (hst : st = As.reverse ++ .ref (aX 0 0) :: rest) (hrest : (rest.map fun v => v.category).sum ≤ 8) (hd : decode cL_law pc = .ok (.invokevirtual idx, 3))
    (hSp : ∀ Z : ZE, OkX Z → zg Z = g → Sp Z l y N (.ref (za Z 0 0) :: As) s (rI (r, s'))) (kk : LA l b L xs D c ad sz (kc + mK N) (ks + mN N) (pc + 3) lv (.int r :: rest) (LJ D c g aX aM s' u)) : LA l b L xs D c ad sz kc ks pc lv st (LJ D c g aX aM s u) := by
  obtain ⟨h1, h2, h3, h4, h5, h6, h7⟩ := hAd
  refine l_callV (a := aX) (g := g) (x := exX g) (t := 0) (k0 := 0) (s := s) (R := rI (r, s')) ⟨by decide, Nat.one_pos⟩ hl0 hf hst hrest hd (fun H h => h.1) h1 h3 h6 (fun A hZ => hSp _ ⟨hZ, fun t k ht hk => ⟨ht, hk⟩⟩ rfl) (l_J (fun H1 h => ?_) kk)
  obtain ⟨H, hJ, hW, hz, hk⟩ := h
  refine ⟨hW, fun t k hx => (hJ.2 t k hx).kept (hk _ ((hJ.2 t k hx).lt) (fun ⟨t', k', h8, h9⟩ => h5 t' k' t k h8 hx h9))⟩
theorem l_callM (hAd : LAd sz ad g aX aM) {y : MethodName} {N : MI} {idx : Nat} {As rest : List Value} {r : Int32} {u' : St} (hl0 : LkV R_law idx y 60 N As.length) (hf : (mD N + 1 ≤ 2048 ∧ 8 + (mL N + 11) + 40 * mD N ≤ 84000) ∧ kc + mK N ≤ 600000 ∧ ks + mN N ≤ 7302250) (hst : st = As.reverse ++ .ref (aM 60 0) :: rest) (hrest : (rest.map fun v => v.category).sum ≤ 8) (hd : decode cL_law pc = .ok (.invokevirtual idx, 3))
    (hSp : ∀ Z : ZE, OkM Z → zg Z = g → Sp Z l y N (.ref (za Z 60 0) :: As) u (rI (r, u'))) (kk : LA l b L xs D c ad sz (kc + mK N) (ks + mN N) (pc + 3) lv (.int r :: rest) (LJ D c g aX aM s u')) : LA l b L xs D c ad sz kc ks pc lv st (LJ D c g aX aM s u) := by
  obtain ⟨h1, h2, h3, h4, h5, h6, h7⟩ := hAd
  refine l_callV (a := aM) (g := g) (x := exM g) (t := 60) (k0 := 0) (s := u) (R := rI (r, u')) ⟨⟨by decide, by decide⟩, Nat.one_pos⟩ hl0 hf hst hrest hd (fun H h => h.2) h2 h4 h7 (fun A hZ => hSp _ ⟨hZ, fun t k ht ht2 hk => ⟨⟨ht, ht2⟩, hk⟩⟩ rfl) (l_J (fun H1 h => ?_) kk)
  obtain ⟨H, hJ, hW, hz, hk⟩ := h
  refine ⟨fun t k hx => (hJ.1 t k hx).kept (hk _ ((hJ.1 t k hx).lt) (fun ⟨t', k', h8, h9⟩ => h5 t k t' k' hx h8 h9.symm)), hW⟩
end LCS
abbrev lvL (b : Nat) (aX aM : Nat → Nat → Nat) (i : Int32) : List (Nat × Value) := [(0, .ref b), (1, .ref (aX 0 0)), (2, .ref (aM 60 0)), (3, .int i)]
theorem lkL_13 : LkV R_law 13 yX10_sheet 0 iX10_sheet 3 := ⟨10, 11, TX10, rfl, rfl, kw_314, kw_315, kw_316, kw_1, kw_317, ⟨by decide, by decide, by decide⟩⟩
theorem lkL_17 : LkV R_law 17 yX11_sheet 60 iX11_sheet 3 := ⟨11, 57, TX11, rfl, rfl, kw_1124, kw_1125, kw_1126, kw_10, kw_1127, ⟨by decide, by decide, by decide⟩⟩
theorem lkL_18 : LkV R_law 18 yX10_set 0 iX10_set 3 := ⟨10, 11, TX10, rfl, rfl, kw_341, kw_342, kw_343, kw_1, kw_344, ⟨by decide, by decide, by decide⟩⟩
theorem lkL_21 : LkV R_law 21 yX11_set 60 iX11_set 3 := ⟨11, 57, TX11, rfl, rfl, kw_1142, kw_1143, kw_1144, kw_10, kw_1145, ⟨by decide, by decide, by decide⟩⟩
theorem lkL_22 : LkV R_law 22 yX10_copy 0 iX10_copy 5 := ⟨10, 11, TX10, rfl, rfl, kw_357, kw_358, kw_359, kw_1, kw_360, ⟨by decide, by decide, by decide⟩⟩
theorem lkL_26 : LkV R_law 26 yX11_copy 60 iX11_copy 5 := ⟨11, 57, TX11, rfl, rfl, kw_1146, kw_1147, kw_1148, kw_10, kw_1149, ⟨by decide, by decide, by decide⟩⟩
theorem lkL_27 : LkV R_law 27 yX10_drop 0 iX10_drop 1 := ⟨10, 11, TX10, rfl, rfl, kw_365, kw_366, kw_367, kw_1, kw_368, ⟨by decide, by decide, by decide⟩⟩
theorem lkL_31 : LkV R_law 31 yX11_drop 60 iX11_drop 1 := ⟨11, 57, TX11, rfl, rfl, kw_1150, kw_1151, kw_1152, kw_10, kw_1153, ⟨by decide, by decide, by decide⟩⟩
theorem lkL_32 : LkV R_law 32 yX10_stuff 0 iX10_stuff 3 := ⟨10, 11, TX10, rfl, rfl, kw_369, kw_370, kw_371, kw_1, kw_372, ⟨by decide, by decide, by decide⟩⟩
theorem lkL_35 : LkV R_law 35 yX11_stuff 60 iX11_stuff 3 := ⟨11, 57, TX11, rfl, rfl, kw_1154, kw_1155, kw_1156, kw_10, kw_1157, ⟨by decide, by decide, by decide⟩⟩
theorem lkL_36 : LkV R_law 36 yX10_ship 0 iX10_ship 4 := ⟨10, 11, TX10, rfl, rfl, kw_390, kw_391, kw_392, kw_1, kw_393, ⟨by decide, by decide, by decide⟩⟩
theorem lkL_40 : LkV R_law 40 yX11_ship 60 iX11_ship 4 := ⟨11, 57, TX11, rfl, rfl, kw_1168, kw_1169, kw_1170, kw_10, kw_1171, ⟨by decide, by decide, by decide⟩⟩
theorem lkL_44 : LkV R_law 44 yX11_mill 60 iX11_mill 4 := ⟨11, 57, TX11, rfl, rfl, kw_1177, kw_1178, kw_1179, kw_10, kw_1180, ⟨by decide, by decide, by decide⟩⟩
theorem lkL_45 : LkV R_law 45 yX10_stock 0 iX10_stock 3 := ⟨10, 11, TX10, rfl, rfl, kw_449, kw_450, kw_451, kw_1, kw_452, ⟨by decide, by decide, by decide⟩⟩
theorem lkL_48 : LkV R_law 48 yX11_stock 60 iX11_stock 3 := ⟨11, 57, TX11, rfl, rfl, kw_1183, kw_1184, kw_1185, kw_10, kw_1186, ⟨by decide, by decide, by decide⟩⟩
theorem lkL_49 : LkV R_law 49 yX10_told 0 iX10_told 2 := ⟨10, 11, TX10, rfl, rfl, kw_458, kw_459, kw_460, kw_1, kw_461, ⟨by decide, by decide, by decide⟩⟩
theorem lkL_53 : LkV R_law 53 yX11_told 60 iX11_told 2 := ⟨11, 57, TX11, rfl, rfl, kw_1191, kw_1192, kw_1193, kw_10, kw_1194, ⟨by decide, by decide, by decide⟩⟩
theorem lkL_54 : LkV R_law 54 yX10_step 0 iX10_step 1 := ⟨10, 11, TX10, rfl, rfl, kw_468, kw_469, kw_470, kw_1, kw_471, ⟨by decide, by decide, by decide⟩⟩
theorem lkL_57 : LkV R_law 57 yX11_step 60 iX11_step 1 := ⟨11, 57, TX11, rfl, rfl, kw_1196, kw_1197, kw_1198, kw_10, kw_1199, ⟨by decide, by decide, by decide⟩⟩
theorem lkL_58 : LkV R_law 58 yX10_ran 0 iX10_ran 2 := ⟨10, 11, TX10, rfl, rfl, kw_576, kw_577, kw_578, kw_1, kw_579, ⟨by decide, by decide, by decide⟩⟩
theorem lkL_61 : LkV R_law 61 yX11_ran 60 iX11_ran 2 := ⟨11, 57, TX11, rfl, rfl, kw_1243, kw_1244, kw_1245, kw_10, kw_1246, ⟨by decide, by decide, by decide⟩⟩
theorem lkL_62 : LkV R_law 62 yX10_price 0 iX10_price 2 := ⟨10, 11, TX10, rfl, rfl, kw_580, kw_581, kw_582, kw_1, kw_583, ⟨by decide, by decide, by decide⟩⟩
theorem lkL_65 : LkV R_law 65 yX11_price 60 iX11_price 2 := ⟨11, 57, TX11, rfl, rfl, kw_1248, kw_1249, kw_1250, kw_10, kw_1251, ⟨by decide, by decide, by decide⟩⟩
theorem lkL_68 : LkV R_law 68 yX10_feed 0 iX10_feed 2 := ⟨10, 11, TX10, rfl, rfl, kw_585, kw_586, kw_587, kw_1, kw_588, ⟨by decide, by decide, by decide⟩⟩
theorem lkL_72 : LkV R_law 72 yX11_feed 60 iX11_feed 2 := ⟨11, 57, TX11, rfl, rfl, kw_1252, kw_1253, kw_1254, kw_10, kw_1255, ⟨by decide, by decide, by decide⟩⟩
theorem lkL_73 : LkV R_law 73 yX10_lists 0 iX10_lists 0 := ⟨10, 11, TX10, rfl, rfl, kw_594, kw_595, kw_596, kw_1, kw_597, ⟨by decide, by decide, by decide⟩⟩
theorem lkL_77 : LkV R_law 77 yX11_lists 60 iX11_lists 0 := ⟨11, 57, TX11, rfl, rfl, kw_1258, kw_1259, kw_1260, kw_10, kw_1261, ⟨by decide, by decide, by decide⟩⟩
theorem lkL_78 : LkV R_law 78 yX10_fault 0 iX10_fault 0 := ⟨10, 11, TX10, rfl, rfl, kw_723, kw_724, kw_725, kw_1, kw_726, ⟨by decide, by decide, by decide⟩⟩
theorem lkL_81 : LkV R_law 81 yX11_fault 60 iX11_fault 0 := ⟨11, 57, TX11, rfl, rfl, kw_1307, kw_1308, kw_1309, kw_10, kw_1310, ⟨by decide, by decide, by decide⟩⟩
theorem lkL_82 : LkV R_law 82 yX10_holds 0 iX10_holds 2 := ⟨10, 11, TX10, rfl, rfl, kw_727, kw_728, kw_729, kw_1, kw_730, ⟨by decide, by decide, by decide⟩⟩
theorem lkL_85 : LkV R_law 85 yX11_holds 60 iX11_holds 2 := ⟨11, 57, TX11, rfl, rfl, kw_1311, kw_1312, kw_1313, kw_10, kw_1314, ⟨by decide, by decide, by decide⟩⟩
theorem lkL_86 : LkV R_law 86 yX10_first 0 iX10_first 2 := ⟨10, 11, TX10, rfl, rfl, kw_736, kw_737, kw_738, kw_1, kw_739, ⟨by decide, by decide, by decide⟩⟩
theorem lkL_89 : LkV R_law 89 yX11_first 60 iX11_first 2 := ⟨11, 57, TX11, rfl, rfl, kw_1317, kw_1318, kw_1319, kw_10, kw_1320, ⟨by decide, by decide, by decide⟩⟩
theorem lkL_93 : LkV R_law 93 yX11_home 60 iX11_home 2 := ⟨11, 57, TX11, rfl, rfl, kw_1321, kw_1322, kw_1323, kw_10, kw_1324, ⟨by decide, by decide, by decide⟩⟩
theorem lkL_94 : LkV R_law 94 yX10_house 0 iX10_house 2 := ⟨10, 11, TX10, rfl, rfl, kw_782, kw_783, kw_784, kw_1, kw_785, ⟨by decide, by decide, by decide⟩⟩
theorem lkL_97 : LkV R_law 97 yX11_house 60 iX11_house 2 := ⟨11, 57, TX11, rfl, rfl, kw_1331, kw_1332, kw_1333, kw_10, kw_1334, ⟨by decide, by decide, by decide⟩⟩
theorem lkL_98 : LkV R_law 98 yX10_paid 0 iX10_paid 4 := ⟨10, 11, TX10, rfl, rfl, kw_792, kw_793, kw_794, kw_1, kw_795, ⟨by decide, by decide, by decide⟩⟩
theorem lkL_101 : LkV R_law 101 yX11_paid 60 iX11_paid 4 := ⟨11, 57, TX11, rfl, rfl, kw_1335, kw_1336, kw_1337, kw_10, kw_1338, ⟨by decide, by decide, by decide⟩⟩
theorem lkL_102 : LkV R_law 102 yX10_thing 0 iX10_thing 3 := ⟨10, 11, TX10, rfl, rfl, kw_820, kw_821, kw_822, kw_1, kw_823, ⟨by decide, by decide, by decide⟩⟩
theorem lkL_105 : LkV R_law 105 yX11_thing 60 iX11_thing 3 := ⟨11, 57, TX11, rfl, rfl, kw_1339, kw_1340, kw_1341, kw_10, kw_1342, ⟨by decide, by decide, by decide⟩⟩
theorem lkL_106 : LkV R_law 106 yX10_works 0 iX10_works 5 := ⟨10, 11, TX10, rfl, rfl, kw_841, kw_842, kw_843, kw_1, kw_844, ⟨by decide, by decide, by decide⟩⟩
theorem lkL_109 : LkV R_law 109 yX11_works 60 iX11_works 5 := ⟨11, 57, TX11, rfl, rfl, kw_1347, kw_1348, kw_1349, kw_10, kw_1350, ⟨by decide, by decide, by decide⟩⟩
theorem lkL_110 : LkV R_law 110 yX10_news 0 iX10_news 4 := ⟨10, 11, TX10, rfl, rfl, kw_861, kw_862, kw_863, kw_1, kw_864, ⟨by decide, by decide, by decide⟩⟩
theorem lkL_113 : LkV R_law 113 yX11_news 60 iX11_news 4 := ⟨11, 57, TX11, rfl, rfl, kw_1351, kw_1352, kw_1353, kw_10, kw_1354, ⟨by decide, by decide, by decide⟩⟩
theorem lkL_114 : LkV R_law 114 yX10_known 0 iX10_known 2 := ⟨10, 11, TX10, rfl, rfl, kw_870, kw_871, kw_872, kw_1, kw_873, ⟨by decide, by decide, by decide⟩⟩
theorem lkL_117 : LkV R_law 117 yX11_known 60 iX11_known 2 := ⟨11, 57, TX11, rfl, rfl, kw_1356, kw_1357, kw_1358, kw_10, kw_1359, ⟨by decide, by decide, by decide⟩⟩
theorem lkL_118 : LkV R_law 118 yX10_kind 0 iX10_kind 1 := ⟨10, 11, TX10, rfl, rfl, kw_878, kw_879, kw_880, kw_1, kw_881, ⟨by decide, by decide, by decide⟩⟩
theorem lkL_121 : LkV R_law 121 yX11_kind 60 iX11_kind 1 := ⟨11, 57, TX11, rfl, rfl, kw_1360, kw_1361, kw_1362, kw_10, kw_1363, ⟨by decide, by decide, by decide⟩⟩
theorem lkL_122 : LkV R_law 122 yX10_as 0 iX10_as 2 := ⟨10, 11, TX10, rfl, rfl, kw_883, kw_884, kw_885, kw_1, kw_886, ⟨by decide, by decide, by decide⟩⟩
theorem lkL_125 : LkV R_law 125 yX11_as 60 iX11_as 2 := ⟨11, 57, TX11, rfl, rfl, kw_1364, kw_1365, kw_1366, kw_10, kw_1367, ⟨by decide, by decide, by decide⟩⟩
theorem lkL_126 : LkV R_law 126 yX10_ask 0 iX10_ask 2 := ⟨10, 11, TX10, rfl, rfl, kw_892, kw_893, kw_894, kw_1, kw_895, ⟨by decide, by decide, by decide⟩⟩
theorem lkL_129 : LkV R_law 129 yX11_ask 60 iX11_ask 2 := ⟨11, 57, TX11, rfl, rfl, kw_1371, kw_1372, kw_1373, kw_10, kw_1374, ⟨by decide, by decide, by decide⟩⟩
theorem lkL_130 : LkV R_law 130 yX10_trace 0 iX10_trace 1 := ⟨10, 11, TX10, rfl, rfl, kw_920, kw_921, kw_922, kw_1, kw_923, ⟨by decide, by decide, by decide⟩⟩
theorem lkL_133 : LkV R_law 133 yX11_trace 60 iX11_trace 1 := ⟨11, 57, TX11, rfl, rfl, kw_1391, kw_1392, kw_1393, kw_10, kw_1394, ⟨by decide, by decide, by decide⟩⟩
theorem lkL_134 : LkV R_law 134 yX10_count 0 iX10_count 1 := ⟨10, 11, TX10, rfl, rfl, kw_924, kw_925, kw_926, kw_1, kw_927, ⟨by decide, by decide, by decide⟩⟩
theorem lkL_137 : LkV R_law 137 yX11_count 60 iX11_count 1 := ⟨11, 57, TX11, rfl, rfl, kw_1395, kw_1396, kw_1397, kw_10, kw_1398, ⟨by decide, by decide, by decide⟩⟩
theorem lkL_138 : LkV R_law 138 yX10_status 0 iX10_status 0 := ⟨10, 11, TX10, rfl, rfl, kw_941, kw_942, kw_943, kw_1, kw_944, ⟨by decide, by decide, by decide⟩⟩
theorem lkL_141 : LkV R_law 141 yX11_status 60 iX11_status 0 := ⟨11, 57, TX11, rfl, rfl, kw_1399, kw_1400, kw_1401, kw_10, kw_1402, ⟨by decide, by decide, by decide⟩⟩
set_option maxRecDepth 100000 in
theorem law_0 {l : Launch} {b L : Nat} {xs : Nat → Int32} {D : va_G} {c : Nat → ClassId} {ad : Nat → Nat → Nat} {sz kc ks : Nat} {g : Nat × Nat} {aX aM : Nat → Nat → Nat} {s u s' u' : St} {i r : Int32} (hAd : LAd sz ad g aX aM) (hi : ∀ k : Nat, k < 6 → vp_in (i + nI k) L) (hkc : kc ≤ 500000) (hks : ks ≤ 7000000) (hX : F_X10_sheet g (xs (i + 1).toNatClampNeg) (xs (i + 2).toNatClampNeg) (xs (i + 3).toNatClampNeg) s = some (r, s')) (hM : F_X11_sheet g (xs (i + 1).toNatClampNeg) (xs (i + 2).toNatClampNeg) (xs (i + 3).toNatClampNeg) u = some (r, u')) (k : LA l b L xs D c ad sz kc ks 1268 (lvL b aX aM i) [] (LJ D c g aX aM s' u')) : LA l b L xs D c ad sz kc ks 168 (lvL b aX aM i) [] (LJ D c g aX aM s u) := by
  refine l_aload_n dL_law_168 1 rfl rfl ?_
  refine l_aload_n dL_law_169 0 rfl rfl ?_
  refine l_iload_n dL_law_170 3 rfl rfl ?_
  refine l_iconst (v := 1) dL_law_171 (by decide) ?_
  refine l_iadd dL_law_172 ?_
  refine l_scr (hi 1 (by decide)) dL_law_173 ?_
  refine l_aload_n dL_law_174 0 rfl rfl ?_
  refine l_iload_n dL_law_175 3 rfl rfl ?_
  refine l_iconst (v := 2) dL_law_176 (by decide) ?_
  refine l_iadd dL_law_177 ?_
  refine l_scr (hi 2 (by decide)) dL_law_178 ?_
  refine l_aload_n dL_law_179 0 rfl rfl ?_
  refine l_iload_n dL_law_180 3 rfl rfl ?_
  refine l_iconst (v := 3) dL_law_181 (by decide) ?_
  refine l_iadd dL_law_182 ?_
  refine l_scr (hi 3 (by decide)) dL_law_183 ?_
  refine l_callX hAd (As := [.int (xs (i + 1).toNatClampNeg), .int (xs (i + 2).toNatClampNeg), .int (xs (i + 3).toNatClampNeg)]) (rest := []) lkL_13 ⟨⟨by decide, by decide⟩, by show kc + 0 ≤ 600000; omega, by show ks + 0 ≤ 7302250; omega⟩ rfl (Nat.le_of_ble_eq_true rfl) dL_law_184 (fun Z hZ hg => m_X10_sheet hZ (by rw [hg]; exact hX)) ?_
  refine l_aload_n dL_law_187 2 rfl rfl ?_
  refine l_aload_n dL_law_188 0 rfl rfl ?_
  refine l_iload_n dL_law_189 3 rfl rfl ?_
  refine l_iconst (v := 1) dL_law_190 (by decide) ?_
  refine l_iadd dL_law_191 ?_
  refine l_scr (hi 1 (by decide)) dL_law_192 ?_
  refine l_aload_n dL_law_193 0 rfl rfl ?_
  refine l_iload_n dL_law_194 3 rfl rfl ?_
  refine l_iconst (v := 2) dL_law_195 (by decide) ?_
  refine l_iadd dL_law_196 ?_
  refine l_scr (hi 2 (by decide)) dL_law_197 ?_
  refine l_aload_n dL_law_198 0 rfl rfl ?_
  refine l_iload_n dL_law_199 3 rfl rfl ?_
  refine l_iconst (v := 3) dL_law_200 (by decide) ?_
  refine l_iadd dL_law_201 ?_
  refine l_scr (hi 3 (by decide)) dL_law_202 ?_
  refine l_callM hAd (As := [.int (xs (i + 1).toNatClampNeg), .int (xs (i + 2).toNatClampNeg), .int (xs (i + 3).toNatClampNeg)]) (rest := [.int r]) lkL_17 ⟨⟨by decide, by decide⟩, by show kc + 0 + 0 ≤ 600000; omega, by show ks + 0 + 0 ≤ 7302250; omega⟩ rfl (Nat.le_of_ble_eq_true rfl) dL_law_203 (fun Z hZ hg => m_X11_sheet hZ (by rw [hg]; exact hM)) ?_
  exact l_same 1268 dL_law_206 (by decide) k
set_option maxRecDepth 100000 in
theorem law_1 {l : Launch} {b L : Nat} {xs : Nat → Int32} {D : va_G} {c : Nat → ClassId} {ad : Nat → Nat → Nat} {sz kc ks : Nat} {g : Nat × Nat} {aX aM : Nat → Nat → Nat} {s u s' u' : St} {i r : Int32} (hAd : LAd sz ad g aX aM) (hi : ∀ k : Nat, k < 6 → vp_in (i + nI k) L) (hkc : kc ≤ 500000) (hks : ks ≤ 7000000) (hX : F_X10_set g (xs (i + 1).toNatClampNeg) (xs (i + 2).toNatClampNeg) (xs (i + 3).toNatClampNeg) s = some (r, s')) (hM : F_X11_set g (xs (i + 1).toNatClampNeg) (xs (i + 2).toNatClampNeg) (xs (i + 3).toNatClampNeg) u = some (r, u')) (k : LA l b L xs D c ad sz kc ks 1268 (lvL b aX aM i) [] (LJ D c g aX aM s' u')) : LA l b L xs D c ad sz kc ks 211 (lvL b aX aM i) [] (LJ D c g aX aM s u) := by
  refine l_aload_n dL_law_211 1 rfl rfl ?_
  refine l_aload_n dL_law_212 0 rfl rfl ?_
  refine l_iload_n dL_law_213 3 rfl rfl ?_
  refine l_iconst (v := 1) dL_law_214 (by decide) ?_
  refine l_iadd dL_law_215 ?_
  refine l_scr (hi 1 (by decide)) dL_law_216 ?_
  refine l_aload_n dL_law_217 0 rfl rfl ?_
  refine l_iload_n dL_law_218 3 rfl rfl ?_
  refine l_iconst (v := 2) dL_law_219 (by decide) ?_
  refine l_iadd dL_law_220 ?_
  refine l_scr (hi 2 (by decide)) dL_law_221 ?_
  refine l_aload_n dL_law_222 0 rfl rfl ?_
  refine l_iload_n dL_law_223 3 rfl rfl ?_
  refine l_iconst (v := 3) dL_law_224 (by decide) ?_
  refine l_iadd dL_law_225 ?_
  refine l_scr (hi 3 (by decide)) dL_law_226 ?_
  refine l_callX hAd (As := [.int (xs (i + 1).toNatClampNeg), .int (xs (i + 2).toNatClampNeg), .int (xs (i + 3).toNatClampNeg)]) (rest := []) lkL_18 ⟨⟨by decide, by decide⟩, by show kc + 0 ≤ 600000; omega, by show ks + 0 ≤ 7302250; omega⟩ rfl (Nat.le_of_ble_eq_true rfl) dL_law_227 (fun Z hZ hg => m_X10_set hZ (by rw [hg]; exact hX)) ?_
  refine l_aload_n dL_law_230 2 rfl rfl ?_
  refine l_aload_n dL_law_231 0 rfl rfl ?_
  refine l_iload_n dL_law_232 3 rfl rfl ?_
  refine l_iconst (v := 1) dL_law_233 (by decide) ?_
  refine l_iadd dL_law_234 ?_
  refine l_scr (hi 1 (by decide)) dL_law_235 ?_
  refine l_aload_n dL_law_236 0 rfl rfl ?_
  refine l_iload_n dL_law_237 3 rfl rfl ?_
  refine l_iconst (v := 2) dL_law_238 (by decide) ?_
  refine l_iadd dL_law_239 ?_
  refine l_scr (hi 2 (by decide)) dL_law_240 ?_
  refine l_aload_n dL_law_241 0 rfl rfl ?_
  refine l_iload_n dL_law_242 3 rfl rfl ?_
  refine l_iconst (v := 3) dL_law_243 (by decide) ?_
  refine l_iadd dL_law_244 ?_
  refine l_scr (hi 3 (by decide)) dL_law_245 ?_
  refine l_callM hAd (As := [.int (xs (i + 1).toNatClampNeg), .int (xs (i + 2).toNatClampNeg), .int (xs (i + 3).toNatClampNeg)]) (rest := [.int r]) lkL_21 ⟨⟨by decide, by decide⟩, by show kc + 0 + 0 ≤ 600000; omega, by show ks + 0 + 0 ≤ 7302250; omega⟩ rfl (Nat.le_of_ble_eq_true rfl) dL_law_246 (fun Z hZ hg => m_X11_set hZ (by rw [hg]; exact hM)) ?_
  exact l_same 1268 dL_law_249 (by decide) k
set_option maxRecDepth 100000 in
theorem law_2 {l : Launch} {b L : Nat} {xs : Nat → Int32} {D : va_G} {c : Nat → ClassId} {ad : Nat → Nat → Nat} {sz kc ks : Nat} {g : Nat × Nat} {aX aM : Nat → Nat → Nat} {s u s' u' : St} {i r : Int32} (hAd : LAd sz ad g aX aM) (hi : ∀ k : Nat, k < 6 → vp_in (i + nI k) L) (hkc : kc ≤ 500000) (hks : ks ≤ 7000000) (hX : F_X10_copy g (xs (i + 1).toNatClampNeg) (xs (i + 2).toNatClampNeg) (xs (i + 3).toNatClampNeg) (xs (i + 4).toNatClampNeg) (xs (i + 5).toNatClampNeg) s = some (r, s')) (hM : F_X11_copy g (xs (i + 1).toNatClampNeg) (xs (i + 2).toNatClampNeg) (xs (i + 3).toNatClampNeg) (xs (i + 4).toNatClampNeg) (xs (i + 5).toNatClampNeg) u = some (r, u')) (k : LA l b L xs D c ad sz kc ks 1268 (lvL b aX aM i) [] (LJ D c g aX aM s' u')) : LA l b L xs D c ad sz kc ks 254 (lvL b aX aM i) [] (LJ D c g aX aM s u) := by
  refine l_aload_n dL_law_254 1 rfl rfl ?_
  refine l_aload_n dL_law_255 0 rfl rfl ?_
  refine l_iload_n dL_law_256 3 rfl rfl ?_
  refine l_iconst (v := 1) dL_law_257 (by decide) ?_
  refine l_iadd dL_law_258 ?_
  refine l_scr (hi 1 (by decide)) dL_law_259 ?_
  refine l_aload_n dL_law_260 0 rfl rfl ?_
  refine l_iload_n dL_law_261 3 rfl rfl ?_
  refine l_iconst (v := 2) dL_law_262 (by decide) ?_
  refine l_iadd dL_law_263 ?_
  refine l_scr (hi 2 (by decide)) dL_law_264 ?_
  refine l_aload_n dL_law_265 0 rfl rfl ?_
  refine l_iload_n dL_law_266 3 rfl rfl ?_
  refine l_iconst (v := 3) dL_law_267 (by decide) ?_
  refine l_iadd dL_law_268 ?_
  refine l_scr (hi 3 (by decide)) dL_law_269 ?_
  refine l_aload_n dL_law_270 0 rfl rfl ?_
  refine l_iload_n dL_law_271 3 rfl rfl ?_
  refine l_iconst (v := 4) dL_law_272 (by decide) ?_
  refine l_iadd dL_law_273 ?_
  refine l_scr (hi 4 (by decide)) dL_law_274 ?_
  refine l_aload_n dL_law_275 0 rfl rfl ?_
  refine l_iload_n dL_law_276 3 rfl rfl ?_
  refine l_iconst (v := 5) dL_law_277 (by decide) ?_
  refine l_iadd dL_law_278 ?_
  refine l_scr (hi 5 (by decide)) dL_law_279 ?_
  refine l_callX hAd (As := [.int (xs (i + 1).toNatClampNeg), .int (xs (i + 2).toNatClampNeg), .int (xs (i + 3).toNatClampNeg), .int (xs (i + 4).toNatClampNeg), .int (xs (i + 5).toNatClampNeg)]) (rest := []) lkL_22 ⟨⟨by decide, by decide⟩, by show kc + 0 ≤ 600000; omega, by show ks + 0 ≤ 7302250; omega⟩ rfl (Nat.le_of_ble_eq_true rfl) dL_law_280 (fun Z hZ hg => m_X10_copy hZ (by rw [hg]; exact hX)) ?_
  refine l_aload_n dL_law_283 2 rfl rfl ?_
  refine l_aload_n dL_law_284 0 rfl rfl ?_
  refine l_iload_n dL_law_285 3 rfl rfl ?_
  refine l_iconst (v := 1) dL_law_286 (by decide) ?_
  refine l_iadd dL_law_287 ?_
  refine l_scr (hi 1 (by decide)) dL_law_288 ?_
  refine l_aload_n dL_law_289 0 rfl rfl ?_
  refine l_iload_n dL_law_290 3 rfl rfl ?_
  refine l_iconst (v := 2) dL_law_291 (by decide) ?_
  refine l_iadd dL_law_292 ?_
  refine l_scr (hi 2 (by decide)) dL_law_293 ?_
  refine l_aload_n dL_law_294 0 rfl rfl ?_
  refine l_iload_n dL_law_295 3 rfl rfl ?_
  refine l_iconst (v := 3) dL_law_296 (by decide) ?_
  refine l_iadd dL_law_297 ?_
  refine l_scr (hi 3 (by decide)) dL_law_298 ?_
  refine l_aload_n dL_law_299 0 rfl rfl ?_
  refine l_iload_n dL_law_300 3 rfl rfl ?_
  refine l_iconst (v := 4) dL_law_301 (by decide) ?_
  refine l_iadd dL_law_302 ?_
  refine l_scr (hi 4 (by decide)) dL_law_303 ?_
  refine l_aload_n dL_law_304 0 rfl rfl ?_
  refine l_iload_n dL_law_305 3 rfl rfl ?_
  refine l_iconst (v := 5) dL_law_306 (by decide) ?_
  refine l_iadd dL_law_307 ?_
  refine l_scr (hi 5 (by decide)) dL_law_308 ?_
  refine l_callM hAd (As := [.int (xs (i + 1).toNatClampNeg), .int (xs (i + 2).toNatClampNeg), .int (xs (i + 3).toNatClampNeg), .int (xs (i + 4).toNatClampNeg), .int (xs (i + 5).toNatClampNeg)]) (rest := [.int r]) lkL_26 ⟨⟨by decide, by decide⟩, by show kc + 0 + 0 ≤ 600000; omega, by show ks + 0 + 0 ≤ 7302250; omega⟩ rfl (Nat.le_of_ble_eq_true rfl) dL_law_309 (fun Z hZ hg => m_X11_copy hZ (by rw [hg]; exact hM)) ?_
  exact l_same 1268 dL_law_312 (by decide) k
set_option maxRecDepth 100000 in
theorem law_3 {l : Launch} {b L : Nat} {xs : Nat → Int32} {D : va_G} {c : Nat → ClassId} {ad : Nat → Nat → Nat} {sz kc ks : Nat} {g : Nat × Nat} {aX aM : Nat → Nat → Nat} {s u s' u' : St} {i r : Int32} (hAd : LAd sz ad g aX aM) (hi : ∀ k : Nat, k < 6 → vp_in (i + nI k) L) (hkc : kc ≤ 500000) (hks : ks ≤ 7000000) (hX : F_X10_drop g (xs (i + 1).toNatClampNeg) s = some (r, s')) (hM : F_X11_drop g (xs (i + 1).toNatClampNeg) u = some (r, u')) (k : LA l b L xs D c ad sz kc ks 1268 (lvL b aX aM i) [] (LJ D c g aX aM s' u')) : LA l b L xs D c ad sz kc ks 317 (lvL b aX aM i) [] (LJ D c g aX aM s u) := by
  refine l_aload_n dL_law_317 1 rfl rfl ?_
  refine l_aload_n dL_law_318 0 rfl rfl ?_
  refine l_iload_n dL_law_319 3 rfl rfl ?_
  refine l_iconst (v := 1) dL_law_320 (by decide) ?_
  refine l_iadd dL_law_321 ?_
  refine l_scr (hi 1 (by decide)) dL_law_322 ?_
  refine l_callX hAd (As := [.int (xs (i + 1).toNatClampNeg)]) (rest := []) lkL_27 ⟨⟨by decide, by decide⟩, by show kc + 0 ≤ 600000; omega, by show ks + 0 ≤ 7302250; omega⟩ rfl (Nat.le_of_ble_eq_true rfl) dL_law_323 (fun Z hZ hg => m_X10_drop hZ (by rw [hg]; exact hX)) ?_
  refine l_aload_n dL_law_326 2 rfl rfl ?_
  refine l_aload_n dL_law_327 0 rfl rfl ?_
  refine l_iload_n dL_law_328 3 rfl rfl ?_
  refine l_iconst (v := 1) dL_law_329 (by decide) ?_
  refine l_iadd dL_law_330 ?_
  refine l_scr (hi 1 (by decide)) dL_law_331 ?_
  refine l_callM hAd (As := [.int (xs (i + 1).toNatClampNeg)]) (rest := [.int r]) lkL_31 ⟨⟨by decide, by decide⟩, by show kc + 0 + 0 ≤ 600000; omega, by show ks + 0 + 0 ≤ 7302250; omega⟩ rfl (Nat.le_of_ble_eq_true rfl) dL_law_332 (fun Z hZ hg => m_X11_drop hZ (by rw [hg]; exact hM)) ?_
  exact l_same 1268 dL_law_335 (by decide) k
set_option maxRecDepth 100000 in
theorem law_4 {l : Launch} {b L : Nat} {xs : Nat → Int32} {D : va_G} {c : Nat → ClassId} {ad : Nat → Nat → Nat} {sz kc ks : Nat} {g : Nat × Nat} {aX aM : Nat → Nat → Nat} {s u s' u' : St} {i r : Int32} (hAd : LAd sz ad g aX aM) (hi : ∀ k : Nat, k < 6 → vp_in (i + nI k) L) (hkc : kc ≤ 500000) (hks : ks ≤ 7000000) (hX : F_X10_stuff g (xs (i + 1).toNatClampNeg) (xs (i + 2).toNatClampNeg) (xs (i + 3).toNatClampNeg) s = some (r, s')) (hM : F_X11_stuff g (xs (i + 1).toNatClampNeg) (xs (i + 2).toNatClampNeg) (xs (i + 3).toNatClampNeg) u = some (r, u')) (k : LA l b L xs D c ad sz kc ks 1268 (lvL b aX aM i) [] (LJ D c g aX aM s' u')) : LA l b L xs D c ad sz kc ks 340 (lvL b aX aM i) [] (LJ D c g aX aM s u) := by
  refine l_aload_n dL_law_340 1 rfl rfl ?_
  refine l_aload_n dL_law_341 0 rfl rfl ?_
  refine l_iload_n dL_law_342 3 rfl rfl ?_
  refine l_iconst (v := 1) dL_law_343 (by decide) ?_
  refine l_iadd dL_law_344 ?_
  refine l_scr (hi 1 (by decide)) dL_law_345 ?_
  refine l_aload_n dL_law_346 0 rfl rfl ?_
  refine l_iload_n dL_law_347 3 rfl rfl ?_
  refine l_iconst (v := 2) dL_law_348 (by decide) ?_
  refine l_iadd dL_law_349 ?_
  refine l_scr (hi 2 (by decide)) dL_law_350 ?_
  refine l_aload_n dL_law_351 0 rfl rfl ?_
  refine l_iload_n dL_law_352 3 rfl rfl ?_
  refine l_iconst (v := 3) dL_law_353 (by decide) ?_
  refine l_iadd dL_law_354 ?_
  refine l_scr (hi 3 (by decide)) dL_law_355 ?_
  refine l_callX hAd (As := [.int (xs (i + 1).toNatClampNeg), .int (xs (i + 2).toNatClampNeg), .int (xs (i + 3).toNatClampNeg)]) (rest := []) lkL_32 ⟨⟨by decide, by decide⟩, by show kc + 0 ≤ 600000; omega, by show ks + 0 ≤ 7302250; omega⟩ rfl (Nat.le_of_ble_eq_true rfl) dL_law_356 (fun Z hZ hg => m_X10_stuff hZ (by rw [hg]; exact hX)) ?_
  refine l_aload_n dL_law_359 2 rfl rfl ?_
  refine l_aload_n dL_law_360 0 rfl rfl ?_
  refine l_iload_n dL_law_361 3 rfl rfl ?_
  refine l_iconst (v := 1) dL_law_362 (by decide) ?_
  refine l_iadd dL_law_363 ?_
  refine l_scr (hi 1 (by decide)) dL_law_364 ?_
  refine l_aload_n dL_law_365 0 rfl rfl ?_
  refine l_iload_n dL_law_366 3 rfl rfl ?_
  refine l_iconst (v := 2) dL_law_367 (by decide) ?_
  refine l_iadd dL_law_368 ?_
  refine l_scr (hi 2 (by decide)) dL_law_369 ?_
  refine l_aload_n dL_law_370 0 rfl rfl ?_
  refine l_iload_n dL_law_371 3 rfl rfl ?_
  refine l_iconst (v := 3) dL_law_372 (by decide) ?_
  refine l_iadd dL_law_373 ?_
  refine l_scr (hi 3 (by decide)) dL_law_374 ?_
  refine l_callM hAd (As := [.int (xs (i + 1).toNatClampNeg), .int (xs (i + 2).toNatClampNeg), .int (xs (i + 3).toNatClampNeg)]) (rest := [.int r]) lkL_35 ⟨⟨by decide, by decide⟩, by show kc + 0 + 0 ≤ 600000; omega, by show ks + 0 + 0 ≤ 7302250; omega⟩ rfl (Nat.le_of_ble_eq_true rfl) dL_law_375 (fun Z hZ hg => m_X11_stuff hZ (by rw [hg]; exact hM)) ?_
  exact l_same 1268 dL_law_378 (by decide) k
set_option maxRecDepth 100000 in
theorem law_5 {l : Launch} {b L : Nat} {xs : Nat → Int32} {D : va_G} {c : Nat → ClassId} {ad : Nat → Nat → Nat} {sz kc ks : Nat} {g : Nat × Nat} {aX aM : Nat → Nat → Nat} {s u s' u' : St} {i r : Int32} (hAd : LAd sz ad g aX aM) (hi : ∀ k : Nat, k < 6 → vp_in (i + nI k) L) (hkc : kc ≤ 500000) (hks : ks ≤ 7000000) (hX : F_X10_ship g (xs (i + 1).toNatClampNeg) (xs (i + 2).toNatClampNeg) (xs (i + 3).toNatClampNeg) (xs (i + 4).toNatClampNeg) s = some (r, s')) (hM : F_X11_ship g (xs (i + 1).toNatClampNeg) (xs (i + 2).toNatClampNeg) (xs (i + 3).toNatClampNeg) (xs (i + 4).toNatClampNeg) u = some (r, u')) (k : LA l b L xs D c ad sz kc ks 1268 (lvL b aX aM i) [] (LJ D c g aX aM s' u')) : LA l b L xs D c ad sz kc ks 383 (lvL b aX aM i) [] (LJ D c g aX aM s u) := by
  refine l_aload_n dL_law_383 1 rfl rfl ?_
  refine l_aload_n dL_law_384 0 rfl rfl ?_
  refine l_iload_n dL_law_385 3 rfl rfl ?_
  refine l_iconst (v := 1) dL_law_386 (by decide) ?_
  refine l_iadd dL_law_387 ?_
  refine l_scr (hi 1 (by decide)) dL_law_388 ?_
  refine l_aload_n dL_law_389 0 rfl rfl ?_
  refine l_iload_n dL_law_390 3 rfl rfl ?_
  refine l_iconst (v := 2) dL_law_391 (by decide) ?_
  refine l_iadd dL_law_392 ?_
  refine l_scr (hi 2 (by decide)) dL_law_393 ?_
  refine l_aload_n dL_law_394 0 rfl rfl ?_
  refine l_iload_n dL_law_395 3 rfl rfl ?_
  refine l_iconst (v := 3) dL_law_396 (by decide) ?_
  refine l_iadd dL_law_397 ?_
  refine l_scr (hi 3 (by decide)) dL_law_398 ?_
  refine l_aload_n dL_law_399 0 rfl rfl ?_
  refine l_iload_n dL_law_400 3 rfl rfl ?_
  refine l_iconst (v := 4) dL_law_401 (by decide) ?_
  refine l_iadd dL_law_402 ?_
  refine l_scr (hi 4 (by decide)) dL_law_403 ?_
  refine l_callX hAd (As := [.int (xs (i + 1).toNatClampNeg), .int (xs (i + 2).toNatClampNeg), .int (xs (i + 3).toNatClampNeg), .int (xs (i + 4).toNatClampNeg)]) (rest := []) lkL_36 ⟨⟨by decide, by decide⟩, by show kc + 0 ≤ 600000; omega, by show ks + 0 ≤ 7302250; omega⟩ rfl (Nat.le_of_ble_eq_true rfl) dL_law_404 (fun Z hZ hg => m_X10_ship hZ (by rw [hg]; exact hX)) ?_
  refine l_aload_n dL_law_407 2 rfl rfl ?_
  refine l_aload_n dL_law_408 0 rfl rfl ?_
  refine l_iload_n dL_law_409 3 rfl rfl ?_
  refine l_iconst (v := 1) dL_law_410 (by decide) ?_
  refine l_iadd dL_law_411 ?_
  refine l_scr (hi 1 (by decide)) dL_law_412 ?_
  refine l_aload_n dL_law_413 0 rfl rfl ?_
  refine l_iload_n dL_law_414 3 rfl rfl ?_
  refine l_iconst (v := 2) dL_law_415 (by decide) ?_
  refine l_iadd dL_law_416 ?_
  refine l_scr (hi 2 (by decide)) dL_law_417 ?_
  refine l_aload_n dL_law_418 0 rfl rfl ?_
  refine l_iload_n dL_law_419 3 rfl rfl ?_
  refine l_iconst (v := 3) dL_law_420 (by decide) ?_
  refine l_iadd dL_law_421 ?_
  refine l_scr (hi 3 (by decide)) dL_law_422 ?_
  refine l_aload_n dL_law_423 0 rfl rfl ?_
  refine l_iload_n dL_law_424 3 rfl rfl ?_
  refine l_iconst (v := 4) dL_law_425 (by decide) ?_
  refine l_iadd dL_law_426 ?_
  refine l_scr (hi 4 (by decide)) dL_law_427 ?_
  refine l_callM hAd (As := [.int (xs (i + 1).toNatClampNeg), .int (xs (i + 2).toNatClampNeg), .int (xs (i + 3).toNatClampNeg), .int (xs (i + 4).toNatClampNeg)]) (rest := [.int r]) lkL_40 ⟨⟨by decide, by decide⟩, by show kc + 0 + 0 ≤ 600000; omega, by show ks + 0 + 0 ≤ 7302250; omega⟩ rfl (Nat.le_of_ble_eq_true rfl) dL_law_428 (fun Z hZ hg => m_X11_ship hZ (by rw [hg]; exact hM)) ?_
  exact l_same 1268 dL_law_431 (by decide) k
set_option maxRecDepth 100000 in
theorem law_7 {l : Launch} {b L : Nat} {xs : Nat → Int32} {D : va_G} {c : Nat → ClassId} {ad : Nat → Nat → Nat} {sz kc ks : Nat} {g : Nat × Nat} {aX aM : Nat → Nat → Nat} {s u s' u' : St} {i r : Int32} (hAd : LAd sz ad g aX aM) (hi : ∀ k : Nat, k < 6 → vp_in (i + nI k) L) (hkc : kc ≤ 500000) (hks : ks ≤ 7000000) (hX : F_X10_stock g (xs (i + 1).toNatClampNeg) (xs (i + 2).toNatClampNeg) (xs (i + 3).toNatClampNeg) s = some (r, s')) (hM : F_X11_stock g (xs (i + 1).toNatClampNeg) (xs (i + 2).toNatClampNeg) (xs (i + 3).toNatClampNeg) u = some (r, u')) (k : LA l b L xs D c ad sz kc ks 1268 (lvL b aX aM i) [] (LJ D c g aX aM s' u')) : LA l b L xs D c ad sz kc ks 489 (lvL b aX aM i) [] (LJ D c g aX aM s u) := by
  refine l_aload_n dL_law_489 1 rfl rfl ?_
  refine l_aload_n dL_law_490 0 rfl rfl ?_
  refine l_iload_n dL_law_491 3 rfl rfl ?_
  refine l_iconst (v := 1) dL_law_492 (by decide) ?_
  refine l_iadd dL_law_493 ?_
  refine l_scr (hi 1 (by decide)) dL_law_494 ?_
  refine l_aload_n dL_law_495 0 rfl rfl ?_
  refine l_iload_n dL_law_496 3 rfl rfl ?_
  refine l_iconst (v := 2) dL_law_497 (by decide) ?_
  refine l_iadd dL_law_498 ?_
  refine l_scr (hi 2 (by decide)) dL_law_499 ?_
  refine l_aload_n dL_law_500 0 rfl rfl ?_
  refine l_iload_n dL_law_501 3 rfl rfl ?_
  refine l_iconst (v := 3) dL_law_502 (by decide) ?_
  refine l_iadd dL_law_503 ?_
  refine l_scr (hi 3 (by decide)) dL_law_504 ?_
  refine l_callX hAd (As := [.int (xs (i + 1).toNatClampNeg), .int (xs (i + 2).toNatClampNeg), .int (xs (i + 3).toNatClampNeg)]) (rest := []) lkL_45 ⟨⟨by decide, by decide⟩, by show kc + 0 ≤ 600000; omega, by show ks + 0 ≤ 7302250; omega⟩ rfl (Nat.le_of_ble_eq_true rfl) dL_law_505 (fun Z hZ hg => m_X10_stock hZ (by rw [hg]; exact hX)) ?_
  refine l_aload_n dL_law_508 2 rfl rfl ?_
  refine l_aload_n dL_law_509 0 rfl rfl ?_
  refine l_iload_n dL_law_510 3 rfl rfl ?_
  refine l_iconst (v := 1) dL_law_511 (by decide) ?_
  refine l_iadd dL_law_512 ?_
  refine l_scr (hi 1 (by decide)) dL_law_513 ?_
  refine l_aload_n dL_law_514 0 rfl rfl ?_
  refine l_iload_n dL_law_515 3 rfl rfl ?_
  refine l_iconst (v := 2) dL_law_516 (by decide) ?_
  refine l_iadd dL_law_517 ?_
  refine l_scr (hi 2 (by decide)) dL_law_518 ?_
  refine l_aload_n dL_law_519 0 rfl rfl ?_
  refine l_iload_n dL_law_520 3 rfl rfl ?_
  refine l_iconst (v := 3) dL_law_521 (by decide) ?_
  refine l_iadd dL_law_522 ?_
  refine l_scr (hi 3 (by decide)) dL_law_523 ?_
  refine l_callM hAd (As := [.int (xs (i + 1).toNatClampNeg), .int (xs (i + 2).toNatClampNeg), .int (xs (i + 3).toNatClampNeg)]) (rest := [.int r]) lkL_48 ⟨⟨by decide, by decide⟩, by show kc + 0 + 0 ≤ 600000; omega, by show ks + 0 + 0 ≤ 7302250; omega⟩ rfl (Nat.le_of_ble_eq_true rfl) dL_law_524 (fun Z hZ hg => m_X11_stock hZ (by rw [hg]; exact hM)) ?_
  exact l_same 1268 dL_law_527 (by decide) k
set_option maxRecDepth 100000 in
theorem law_8 {l : Launch} {b L : Nat} {xs : Nat → Int32} {D : va_G} {c : Nat → ClassId} {ad : Nat → Nat → Nat} {sz kc ks : Nat} {g : Nat × Nat} {aX aM : Nat → Nat → Nat} {s u s' u' : St} {i r : Int32} (hAd : LAd sz ad g aX aM) (hi : ∀ k : Nat, k < 6 → vp_in (i + nI k) L) (hkc : kc ≤ 500000) (hks : ks ≤ 7000000) (hX : F_X10_told g (xs (i + 1).toNatClampNeg) (xs (i + 2).toNatClampNeg) s = some (r, s')) (hM : F_X11_told g (xs (i + 1).toNatClampNeg) (xs (i + 2).toNatClampNeg) u = some (r, u')) (k : LA l b L xs D c ad sz kc ks 1268 (lvL b aX aM i) [] (LJ D c g aX aM s' u')) : LA l b L xs D c ad sz kc ks 532 (lvL b aX aM i) [] (LJ D c g aX aM s u) := by
  refine l_aload_n dL_law_532 1 rfl rfl ?_
  refine l_aload_n dL_law_533 0 rfl rfl ?_
  refine l_iload_n dL_law_534 3 rfl rfl ?_
  refine l_iconst (v := 1) dL_law_535 (by decide) ?_
  refine l_iadd dL_law_536 ?_
  refine l_scr (hi 1 (by decide)) dL_law_537 ?_
  refine l_aload_n dL_law_538 0 rfl rfl ?_
  refine l_iload_n dL_law_539 3 rfl rfl ?_
  refine l_iconst (v := 2) dL_law_540 (by decide) ?_
  refine l_iadd dL_law_541 ?_
  refine l_scr (hi 2 (by decide)) dL_law_542 ?_
  refine l_callX hAd (As := [.int (xs (i + 1).toNatClampNeg), .int (xs (i + 2).toNatClampNeg)]) (rest := []) lkL_49 ⟨⟨by decide, by decide⟩, by show kc + 0 ≤ 600000; omega, by show ks + 0 ≤ 7302250; omega⟩ rfl (Nat.le_of_ble_eq_true rfl) dL_law_543 (fun Z hZ hg => m_X10_told hZ (by rw [hg]; exact hX)) ?_
  refine l_aload_n dL_law_546 2 rfl rfl ?_
  refine l_aload_n dL_law_547 0 rfl rfl ?_
  refine l_iload_n dL_law_548 3 rfl rfl ?_
  refine l_iconst (v := 1) dL_law_549 (by decide) ?_
  refine l_iadd dL_law_550 ?_
  refine l_scr (hi 1 (by decide)) dL_law_551 ?_
  refine l_aload_n dL_law_552 0 rfl rfl ?_
  refine l_iload_n dL_law_553 3 rfl rfl ?_
  refine l_iconst (v := 2) dL_law_554 (by decide) ?_
  refine l_iadd dL_law_555 ?_
  refine l_scr (hi 2 (by decide)) dL_law_556 ?_
  refine l_callM hAd (As := [.int (xs (i + 1).toNatClampNeg), .int (xs (i + 2).toNatClampNeg)]) (rest := [.int r]) lkL_53 ⟨⟨by decide, by decide⟩, by show kc + 0 + 0 ≤ 600000; omega, by show ks + 0 + 0 ≤ 7302250; omega⟩ rfl (Nat.le_of_ble_eq_true rfl) dL_law_557 (fun Z hZ hg => m_X11_told hZ (by rw [hg]; exact hM)) ?_
  exact l_same 1268 dL_law_560 (by decide) k
set_option maxRecDepth 100000 in
theorem law_9 {l : Launch} {b L : Nat} {xs : Nat → Int32} {D : va_G} {c : Nat → ClassId} {ad : Nat → Nat → Nat} {sz kc ks : Nat} {g : Nat × Nat} {aX aM : Nat → Nat → Nat} {s u s' u' : St} {i r : Int32} (hAd : LAd sz ad g aX aM) (hi : ∀ k : Nat, k < 6 → vp_in (i + nI k) L) (hkc : kc ≤ 500000) (hks : ks ≤ 7000000) (hX : F_X10_step g (xs (i + 1).toNatClampNeg) s = some (r, s')) (hM : F_X11_step g (xs (i + 1).toNatClampNeg) u = some (r, u')) (k : LA l b L xs D c ad sz kc ks 1268 (lvL b aX aM i) [] (LJ D c g aX aM s' u')) : LA l b L xs D c ad sz kc ks 565 (lvL b aX aM i) [] (LJ D c g aX aM s u) := by
  refine l_aload_n dL_law_565 1 rfl rfl ?_
  refine l_aload_n dL_law_566 0 rfl rfl ?_
  refine l_iload_n dL_law_567 3 rfl rfl ?_
  refine l_iconst (v := 1) dL_law_568 (by decide) ?_
  refine l_iadd dL_law_569 ?_
  refine l_scr (hi 1 (by decide)) dL_law_570 ?_
  refine l_callX hAd (As := [.int (xs (i + 1).toNatClampNeg)]) (rest := []) lkL_54 ⟨⟨by decide, by decide⟩, by show kc + 0 ≤ 600000; omega, by show ks + 0 ≤ 7302250; omega⟩ rfl (Nat.le_of_ble_eq_true rfl) dL_law_571 (fun Z hZ hg => m_X10_step hZ (by rw [hg]; exact hX)) ?_
  refine l_aload_n dL_law_574 2 rfl rfl ?_
  refine l_aload_n dL_law_575 0 rfl rfl ?_
  refine l_iload_n dL_law_576 3 rfl rfl ?_
  refine l_iconst (v := 1) dL_law_577 (by decide) ?_
  refine l_iadd dL_law_578 ?_
  refine l_scr (hi 1 (by decide)) dL_law_579 ?_
  refine l_callM hAd (As := [.int (xs (i + 1).toNatClampNeg)]) (rest := [.int r]) lkL_57 ⟨⟨by decide, by decide⟩, by show kc + 0 + 0 ≤ 600000; omega, by show ks + 0 + 0 ≤ 7302250; omega⟩ rfl (Nat.le_of_ble_eq_true rfl) dL_law_580 (fun Z hZ hg => m_X11_step hZ (by rw [hg]; exact hM)) ?_
  exact l_same 1268 dL_law_583 (by decide) k
set_option maxRecDepth 100000 in
theorem law_10 {l : Launch} {b L : Nat} {xs : Nat → Int32} {D : va_G} {c : Nat → ClassId} {ad : Nat → Nat → Nat} {sz kc ks : Nat} {g : Nat × Nat} {aX aM : Nat → Nat → Nat} {s u s' u' : St} {i r : Int32} (hAd : LAd sz ad g aX aM) (hi : ∀ k : Nat, k < 6 → vp_in (i + nI k) L) (hkc : kc ≤ 500000) (hks : ks ≤ 7000000) (hX : F_X10_ran g (xs (i + 1).toNatClampNeg) (xs (i + 2).toNatClampNeg) s = some (r, s')) (hM : F_X11_ran g (xs (i + 1).toNatClampNeg) (xs (i + 2).toNatClampNeg) u = some (r, u')) (k : LA l b L xs D c ad sz kc ks 1268 (lvL b aX aM i) [] (LJ D c g aX aM s' u')) : LA l b L xs D c ad sz kc ks 588 (lvL b aX aM i) [] (LJ D c g aX aM s u) := by
  refine l_aload_n dL_law_588 1 rfl rfl ?_
  refine l_aload_n dL_law_589 0 rfl rfl ?_
  refine l_iload_n dL_law_590 3 rfl rfl ?_
  refine l_iconst (v := 1) dL_law_591 (by decide) ?_
  refine l_iadd dL_law_592 ?_
  refine l_scr (hi 1 (by decide)) dL_law_593 ?_
  refine l_aload_n dL_law_594 0 rfl rfl ?_
  refine l_iload_n dL_law_595 3 rfl rfl ?_
  refine l_iconst (v := 2) dL_law_596 (by decide) ?_
  refine l_iadd dL_law_597 ?_
  refine l_scr (hi 2 (by decide)) dL_law_598 ?_
  refine l_callX hAd (As := [.int (xs (i + 1).toNatClampNeg), .int (xs (i + 2).toNatClampNeg)]) (rest := []) lkL_58 ⟨⟨by decide, by decide⟩, by show kc + 0 ≤ 600000; omega, by show ks + 0 ≤ 7302250; omega⟩ rfl (Nat.le_of_ble_eq_true rfl) dL_law_599 (fun Z hZ hg => m_X10_ran hZ (by rw [hg]; exact hX)) ?_
  refine l_aload_n dL_law_602 2 rfl rfl ?_
  refine l_aload_n dL_law_603 0 rfl rfl ?_
  refine l_iload_n dL_law_604 3 rfl rfl ?_
  refine l_iconst (v := 1) dL_law_605 (by decide) ?_
  refine l_iadd dL_law_606 ?_
  refine l_scr (hi 1 (by decide)) dL_law_607 ?_
  refine l_aload_n dL_law_608 0 rfl rfl ?_
  refine l_iload_n dL_law_609 3 rfl rfl ?_
  refine l_iconst (v := 2) dL_law_610 (by decide) ?_
  refine l_iadd dL_law_611 ?_
  refine l_scr (hi 2 (by decide)) dL_law_612 ?_
  refine l_callM hAd (As := [.int (xs (i + 1).toNatClampNeg), .int (xs (i + 2).toNatClampNeg)]) (rest := [.int r]) lkL_61 ⟨⟨by decide, by decide⟩, by show kc + 0 + 0 ≤ 600000; omega, by show ks + 0 + 0 ≤ 7302250; omega⟩ rfl (Nat.le_of_ble_eq_true rfl) dL_law_613 (fun Z hZ hg => m_X11_ran hZ (by rw [hg]; exact hM)) ?_
  exact l_same 1268 dL_law_616 (by decide) k
set_option maxRecDepth 100000 in
theorem law_11 {l : Launch} {b L : Nat} {xs : Nat → Int32} {D : va_G} {c : Nat → ClassId} {ad : Nat → Nat → Nat} {sz kc ks : Nat} {g : Nat × Nat} {aX aM : Nat → Nat → Nat} {s u s' u' : St} {i r : Int32} (hAd : LAd sz ad g aX aM) (hi : ∀ k : Nat, k < 6 → vp_in (i + nI k) L) (hkc : kc ≤ 500000) (hks : ks ≤ 7000000) (hX : F_X10_price g (xs (i + 1).toNatClampNeg) (xs (i + 2).toNatClampNeg) s = some (r, s')) (hM : F_X11_price g (xs (i + 1).toNatClampNeg) (xs (i + 2).toNatClampNeg) u = some (r, u')) (k : LA l b L xs D c ad sz kc ks 1268 (lvL b aX aM i) [] (LJ D c g aX aM s' u')) : LA l b L xs D c ad sz kc ks 621 (lvL b aX aM i) [] (LJ D c g aX aM s u) := by
  refine l_aload_n dL_law_621 1 rfl rfl ?_
  refine l_aload_n dL_law_622 0 rfl rfl ?_
  refine l_iload_n dL_law_623 3 rfl rfl ?_
  refine l_iconst (v := 1) dL_law_624 (by decide) ?_
  refine l_iadd dL_law_625 ?_
  refine l_scr (hi 1 (by decide)) dL_law_626 ?_
  refine l_aload_n dL_law_627 0 rfl rfl ?_
  refine l_iload_n dL_law_628 3 rfl rfl ?_
  refine l_iconst (v := 2) dL_law_629 (by decide) ?_
  refine l_iadd dL_law_630 ?_
  refine l_scr (hi 2 (by decide)) dL_law_631 ?_
  refine l_callX hAd (As := [.int (xs (i + 1).toNatClampNeg), .int (xs (i + 2).toNatClampNeg)]) (rest := []) lkL_62 ⟨⟨by decide, by decide⟩, by show kc + 0 ≤ 600000; omega, by show ks + 0 ≤ 7302250; omega⟩ rfl (Nat.le_of_ble_eq_true rfl) dL_law_632 (fun Z hZ hg => m_X10_price hZ (by rw [hg]; exact hX)) ?_
  refine l_aload_n dL_law_635 2 rfl rfl ?_
  refine l_aload_n dL_law_636 0 rfl rfl ?_
  refine l_iload_n dL_law_637 3 rfl rfl ?_
  refine l_iconst (v := 1) dL_law_638 (by decide) ?_
  refine l_iadd dL_law_639 ?_
  refine l_scr (hi 1 (by decide)) dL_law_640 ?_
  refine l_aload_n dL_law_641 0 rfl rfl ?_
  refine l_iload_n dL_law_642 3 rfl rfl ?_
  refine l_iconst (v := 2) dL_law_643 (by decide) ?_
  refine l_iadd dL_law_644 ?_
  refine l_scr (hi 2 (by decide)) dL_law_645 ?_
  refine l_callM hAd (As := [.int (xs (i + 1).toNatClampNeg), .int (xs (i + 2).toNatClampNeg)]) (rest := [.int r]) lkL_65 ⟨⟨by decide, by decide⟩, by show kc + 0 + 0 ≤ 600000; omega, by show ks + 0 + 0 ≤ 7302250; omega⟩ rfl (Nat.le_of_ble_eq_true rfl) dL_law_646 (fun Z hZ hg => m_X11_price hZ (by rw [hg]; exact hM)) ?_
  exact l_same 1268 dL_law_649 (by decide) k
set_option maxRecDepth 100000 in
theorem law_12 {l : Launch} {b L : Nat} {xs : Nat → Int32} {D : va_G} {c : Nat → ClassId} {ad : Nat → Nat → Nat} {sz kc ks : Nat} {g : Nat × Nat} {aX aM : Nat → Nat → Nat} {s u s' u' : St} {i r : Int32} (hAd : LAd sz ad g aX aM) (hi : ∀ k : Nat, k < 6 → vp_in (i + nI k) L) (hkc : kc ≤ 500000) (hks : ks ≤ 7000000) (hX : F_X10_feed g (((xs (i + 1).toNatClampNeg).toInt64 <<< ((32 : Int32).toInt64 &&& 63)) ||| ((xs (i + 2).toNatClampNeg).toInt64 &&& 4294967295)) (xs (i + 3).toNatClampNeg) s = some (r, s')) (hM : F_X11_feed g (((xs (i + 1).toNatClampNeg).toInt64 <<< ((32 : Int32).toInt64 &&& 63)) ||| ((xs (i + 2).toNatClampNeg).toInt64 &&& 4294967295)) (xs (i + 3).toNatClampNeg) u = some (r, u')) (k : LA l b L xs D c ad sz kc ks 1268 (lvL b aX aM i) [] (LJ D c g aX aM s' u')) : LA l b L xs D c ad sz kc ks 654 (lvL b aX aM i) [] (LJ D c g aX aM s u) := by
  refine l_aload_n dL_law_654 1 rfl rfl ?_
  refine l_aload_n dL_law_655 0 rfl rfl ?_
  refine l_iload_n dL_law_656 3 rfl rfl ?_
  refine l_iconst (v := 1) dL_law_657 (by decide) ?_
  refine l_iadd dL_law_658 ?_
  refine l_scr (hi 1 (by decide)) dL_law_659 ?_
  refine l_i2l dL_law_660 ?_
  refine l_bipush (v := 32) dL_law_661 (by decide) ?_
  refine l_lshl dL_law_663 ?_
  refine l_aload_n dL_law_664 0 rfl rfl ?_
  refine l_iload_n dL_law_665 3 rfl rfl ?_
  refine l_iconst (v := 2) dL_law_666 (by decide) ?_
  refine l_iadd dL_law_667 ?_
  refine l_scr (hi 2 (by decide)) dL_law_668 ?_
  refine l_i2l dL_law_669 ?_
  refine l_ldc2 kw_1403 dL_law_670 ?_
  refine l_land dL_law_673 ?_
  refine l_lor dL_law_674 ?_
  refine l_aload_n dL_law_675 0 rfl rfl ?_
  refine l_iload_n dL_law_676 3 rfl rfl ?_
  refine l_iconst (v := 3) dL_law_677 (by decide) ?_
  refine l_iadd dL_law_678 ?_
  refine l_scr (hi 3 (by decide)) dL_law_679 ?_
  refine l_callX hAd (As := [.long (((xs (i + 1).toNatClampNeg).toInt64 <<< ((32 : Int32).toInt64 &&& 63)) ||| ((xs (i + 2).toNatClampNeg).toInt64 &&& 4294967295)), .int (xs (i + 3).toNatClampNeg)]) (rest := []) lkL_68 ⟨⟨by decide, by decide⟩, by show kc + 0 ≤ 600000; omega, by show ks + 0 ≤ 7302250; omega⟩ rfl (Nat.le_of_ble_eq_true rfl) dL_law_680 (fun Z hZ hg => m_X10_feed hZ (by rw [hg]; exact hX)) ?_
  refine l_aload_n dL_law_683 2 rfl rfl ?_
  refine l_aload_n dL_law_684 0 rfl rfl ?_
  refine l_iload_n dL_law_685 3 rfl rfl ?_
  refine l_iconst (v := 1) dL_law_686 (by decide) ?_
  refine l_iadd dL_law_687 ?_
  refine l_scr (hi 1 (by decide)) dL_law_688 ?_
  refine l_i2l dL_law_689 ?_
  refine l_bipush (v := 32) dL_law_690 (by decide) ?_
  refine l_lshl dL_law_692 ?_
  refine l_aload_n dL_law_693 0 rfl rfl ?_
  refine l_iload_n dL_law_694 3 rfl rfl ?_
  refine l_iconst (v := 2) dL_law_695 (by decide) ?_
  refine l_iadd dL_law_696 ?_
  refine l_scr (hi 2 (by decide)) dL_law_697 ?_
  refine l_i2l dL_law_698 ?_
  refine l_ldc2 kw_1403 dL_law_699 ?_
  refine l_land dL_law_702 ?_
  refine l_lor dL_law_703 ?_
  refine l_aload_n dL_law_704 0 rfl rfl ?_
  refine l_iload_n dL_law_705 3 rfl rfl ?_
  refine l_iconst (v := 3) dL_law_706 (by decide) ?_
  refine l_iadd dL_law_707 ?_
  refine l_scr (hi 3 (by decide)) dL_law_708 ?_
  refine l_callM hAd (As := [.long (((xs (i + 1).toNatClampNeg).toInt64 <<< ((32 : Int32).toInt64 &&& 63)) ||| ((xs (i + 2).toNatClampNeg).toInt64 &&& 4294967295)), .int (xs (i + 3).toNatClampNeg)]) (rest := [.int r]) lkL_72 ⟨⟨by decide, by decide⟩, by show kc + 0 + 0 ≤ 600000; omega, by show ks + 0 + 0 ≤ 7302250; omega⟩ rfl (Nat.le_of_ble_eq_true rfl) dL_law_709 (fun Z hZ hg => m_X11_feed hZ (by rw [hg]; exact hM)) ?_
  exact l_same 1268 dL_law_712 (by decide) k
set_option maxRecDepth 100000 in
theorem law_13 {l : Launch} {b L : Nat} {xs : Nat → Int32} {D : va_G} {c : Nat → ClassId} {ad : Nat → Nat → Nat} {sz kc ks : Nat} {g : Nat × Nat} {aX aM : Nat → Nat → Nat} {s u s' u' : St} {i r : Int32} (hAd : LAd sz ad g aX aM) (hi : ∀ k : Nat, k < 6 → vp_in (i + nI k) L) (hkc : kc ≤ 500000) (hks : ks ≤ 7000000) (hX : F_X10_lists g  s = some (r, s')) (hM : F_X11_lists g  u = some (r, u')) (k : LA l b L xs D c ad sz kc ks 1268 (lvL b aX aM i) [] (LJ D c g aX aM s' u')) : LA l b L xs D c ad sz kc ks 717 (lvL b aX aM i) [] (LJ D c g aX aM s u) := by
  refine l_aload_n dL_law_717 1 rfl rfl ?_
  refine l_callX hAd (As := []) (rest := []) lkL_73 ⟨⟨by decide, by decide⟩, by show kc + 0 ≤ 600000; omega, by show ks + 0 ≤ 7302250; omega⟩ rfl (Nat.le_of_ble_eq_true rfl) dL_law_718 (fun Z hZ hg => m_X10_lists hZ (by rw [hg]; exact hX)) ?_
  refine l_aload_n dL_law_721 2 rfl rfl ?_
  refine l_callM hAd (As := []) (rest := [.int r]) lkL_77 ⟨⟨by decide, by decide⟩, by show kc + 0 + 0 ≤ 600000; omega, by show ks + 0 + 0 ≤ 7302250; omega⟩ rfl (Nat.le_of_ble_eq_true rfl) dL_law_722 (fun Z hZ hg => m_X11_lists hZ (by rw [hg]; exact hM)) ?_
  exact l_same 1268 dL_law_725 (by decide) k
set_option maxRecDepth 100000 in
theorem law_14 {l : Launch} {b L : Nat} {xs : Nat → Int32} {D : va_G} {c : Nat → ClassId} {ad : Nat → Nat → Nat} {sz kc ks : Nat} {g : Nat × Nat} {aX aM : Nat → Nat → Nat} {s u s' u' : St} {i r : Int32} (hAd : LAd sz ad g aX aM) (hi : ∀ k : Nat, k < 6 → vp_in (i + nI k) L) (hkc : kc ≤ 500000) (hks : ks ≤ 7000000) (hX : F_X10_fault g  s = some (r, s')) (hM : F_X11_fault g  u = some (r, u')) (k : LA l b L xs D c ad sz kc ks 1268 (lvL b aX aM i) [] (LJ D c g aX aM s' u')) : LA l b L xs D c ad sz kc ks 730 (lvL b aX aM i) [] (LJ D c g aX aM s u) := by
  refine l_aload_n dL_law_730 1 rfl rfl ?_
  refine l_callX hAd (As := []) (rest := []) lkL_78 ⟨⟨by decide, by decide⟩, by show kc + 0 ≤ 600000; omega, by show ks + 0 ≤ 7302250; omega⟩ rfl (Nat.le_of_ble_eq_true rfl) dL_law_731 (fun Z hZ hg => m_X10_fault hZ (by rw [hg]; exact hX)) ?_
  refine l_aload_n dL_law_734 2 rfl rfl ?_
  refine l_callM hAd (As := []) (rest := [.int r]) lkL_81 ⟨⟨by decide, by decide⟩, by show kc + 0 + 0 ≤ 600000; omega, by show ks + 0 + 0 ≤ 7302250; omega⟩ rfl (Nat.le_of_ble_eq_true rfl) dL_law_735 (fun Z hZ hg => m_X11_fault hZ (by rw [hg]; exact hM)) ?_
  exact l_same 1268 dL_law_738 (by decide) k
set_option maxRecDepth 100000 in
theorem law_15 {l : Launch} {b L : Nat} {xs : Nat → Int32} {D : va_G} {c : Nat → ClassId} {ad : Nat → Nat → Nat} {sz kc ks : Nat} {g : Nat × Nat} {aX aM : Nat → Nat → Nat} {s u s' u' : St} {i r : Int32} (hAd : LAd sz ad g aX aM) (hi : ∀ k : Nat, k < 6 → vp_in (i + nI k) L) (hkc : kc ≤ 500000) (hks : ks ≤ 7000000) (hX : F_X10_holds g (xs (i + 1).toNatClampNeg) (xs (i + 2).toNatClampNeg) s = some (r, s')) (hM : F_X11_holds g (xs (i + 1).toNatClampNeg) (xs (i + 2).toNatClampNeg) u = some (r, u')) (k : LA l b L xs D c ad sz kc ks 1268 (lvL b aX aM i) [] (LJ D c g aX aM s' u')) : LA l b L xs D c ad sz kc ks 743 (lvL b aX aM i) [] (LJ D c g aX aM s u) := by
  refine l_aload_n dL_law_743 1 rfl rfl ?_
  refine l_aload_n dL_law_744 0 rfl rfl ?_
  refine l_iload_n dL_law_745 3 rfl rfl ?_
  refine l_iconst (v := 1) dL_law_746 (by decide) ?_
  refine l_iadd dL_law_747 ?_
  refine l_scr (hi 1 (by decide)) dL_law_748 ?_
  refine l_aload_n dL_law_749 0 rfl rfl ?_
  refine l_iload_n dL_law_750 3 rfl rfl ?_
  refine l_iconst (v := 2) dL_law_751 (by decide) ?_
  refine l_iadd dL_law_752 ?_
  refine l_scr (hi 2 (by decide)) dL_law_753 ?_
  refine l_callX hAd (As := [.int (xs (i + 1).toNatClampNeg), .int (xs (i + 2).toNatClampNeg)]) (rest := []) lkL_82 ⟨⟨by decide, by decide⟩, by show kc + 0 ≤ 600000; omega, by show ks + 0 ≤ 7302250; omega⟩ rfl (Nat.le_of_ble_eq_true rfl) dL_law_754 (fun Z hZ hg => m_X10_holds hZ (by rw [hg]; exact hX)) ?_
  refine l_aload_n dL_law_757 2 rfl rfl ?_
  refine l_aload_n dL_law_758 0 rfl rfl ?_
  refine l_iload_n dL_law_759 3 rfl rfl ?_
  refine l_iconst (v := 1) dL_law_760 (by decide) ?_
  refine l_iadd dL_law_761 ?_
  refine l_scr (hi 1 (by decide)) dL_law_762 ?_
  refine l_aload_n dL_law_763 0 rfl rfl ?_
  refine l_iload_n dL_law_764 3 rfl rfl ?_
  refine l_iconst (v := 2) dL_law_765 (by decide) ?_
  refine l_iadd dL_law_766 ?_
  refine l_scr (hi 2 (by decide)) dL_law_767 ?_
  refine l_callM hAd (As := [.int (xs (i + 1).toNatClampNeg), .int (xs (i + 2).toNatClampNeg)]) (rest := [.int r]) lkL_85 ⟨⟨by decide, by decide⟩, by show kc + 0 + 0 ≤ 600000; omega, by show ks + 0 + 0 ≤ 7302250; omega⟩ rfl (Nat.le_of_ble_eq_true rfl) dL_law_768 (fun Z hZ hg => m_X11_holds hZ (by rw [hg]; exact hM)) ?_
  exact l_same 1268 dL_law_771 (by decide) k
set_option maxRecDepth 100000 in
theorem law_16 {l : Launch} {b L : Nat} {xs : Nat → Int32} {D : va_G} {c : Nat → ClassId} {ad : Nat → Nat → Nat} {sz kc ks : Nat} {g : Nat × Nat} {aX aM : Nat → Nat → Nat} {s u s' u' : St} {i r : Int32} (hAd : LAd sz ad g aX aM) (hi : ∀ k : Nat, k < 6 → vp_in (i + nI k) L) (hkc : kc ≤ 500000) (hks : ks ≤ 7000000) (hX : F_X10_first g (xs (i + 1).toNatClampNeg) (xs (i + 2).toNatClampNeg) s = some (r, s')) (hM : F_X11_first g (xs (i + 1).toNatClampNeg) (xs (i + 2).toNatClampNeg) u = some (r, u')) (k : LA l b L xs D c ad sz kc ks 1268 (lvL b aX aM i) [] (LJ D c g aX aM s' u')) : LA l b L xs D c ad sz kc ks 776 (lvL b aX aM i) [] (LJ D c g aX aM s u) := by
  refine l_aload_n dL_law_776 1 rfl rfl ?_
  refine l_aload_n dL_law_777 0 rfl rfl ?_
  refine l_iload_n dL_law_778 3 rfl rfl ?_
  refine l_iconst (v := 1) dL_law_779 (by decide) ?_
  refine l_iadd dL_law_780 ?_
  refine l_scr (hi 1 (by decide)) dL_law_781 ?_
  refine l_aload_n dL_law_782 0 rfl rfl ?_
  refine l_iload_n dL_law_783 3 rfl rfl ?_
  refine l_iconst (v := 2) dL_law_784 (by decide) ?_
  refine l_iadd dL_law_785 ?_
  refine l_scr (hi 2 (by decide)) dL_law_786 ?_
  refine l_callX hAd (As := [.int (xs (i + 1).toNatClampNeg), .int (xs (i + 2).toNatClampNeg)]) (rest := []) lkL_86 ⟨⟨by decide, by decide⟩, by show kc + 0 ≤ 600000; omega, by show ks + 0 ≤ 7302250; omega⟩ rfl (Nat.le_of_ble_eq_true rfl) dL_law_787 (fun Z hZ hg => m_X10_first hZ (by rw [hg]; exact hX)) ?_
  refine l_aload_n dL_law_790 2 rfl rfl ?_
  refine l_aload_n dL_law_791 0 rfl rfl ?_
  refine l_iload_n dL_law_792 3 rfl rfl ?_
  refine l_iconst (v := 1) dL_law_793 (by decide) ?_
  refine l_iadd dL_law_794 ?_
  refine l_scr (hi 1 (by decide)) dL_law_795 ?_
  refine l_aload_n dL_law_796 0 rfl rfl ?_
  refine l_iload_n dL_law_797 3 rfl rfl ?_
  refine l_iconst (v := 2) dL_law_798 (by decide) ?_
  refine l_iadd dL_law_799 ?_
  refine l_scr (hi 2 (by decide)) dL_law_800 ?_
  refine l_callM hAd (As := [.int (xs (i + 1).toNatClampNeg), .int (xs (i + 2).toNatClampNeg)]) (rest := [.int r]) lkL_89 ⟨⟨by decide, by decide⟩, by show kc + 0 + 0 ≤ 600000; omega, by show ks + 0 + 0 ≤ 7302250; omega⟩ rfl (Nat.le_of_ble_eq_true rfl) dL_law_801 (fun Z hZ hg => m_X11_first hZ (by rw [hg]; exact hM)) ?_
  exact l_same 1268 dL_law_804 (by decide) k
set_option maxRecDepth 100000 in
theorem law_18 {l : Launch} {b L : Nat} {xs : Nat → Int32} {D : va_G} {c : Nat → ClassId} {ad : Nat → Nat → Nat} {sz kc ks : Nat} {g : Nat × Nat} {aX aM : Nat → Nat → Nat} {s u s' u' : St} {i r : Int32} (hAd : LAd sz ad g aX aM) (hi : ∀ k : Nat, k < 6 → vp_in (i + nI k) L) (hkc : kc ≤ 500000) (hks : ks ≤ 7000000) (hX : F_X10_house g (xs (i + 1).toNatClampNeg) (xs (i + 2).toNatClampNeg) s = some (r, s')) (hM : F_X11_house g (xs (i + 1).toNatClampNeg) (xs (i + 2).toNatClampNeg) u = some (r, u')) (k : LA l b L xs D c ad sz kc ks 1268 (lvL b aX aM i) [] (LJ D c g aX aM s' u')) : LA l b L xs D c ad sz kc ks 842 (lvL b aX aM i) [] (LJ D c g aX aM s u) := by
  refine l_aload_n dL_law_842 1 rfl rfl ?_
  refine l_aload_n dL_law_843 0 rfl rfl ?_
  refine l_iload_n dL_law_844 3 rfl rfl ?_
  refine l_iconst (v := 1) dL_law_845 (by decide) ?_
  refine l_iadd dL_law_846 ?_
  refine l_scr (hi 1 (by decide)) dL_law_847 ?_
  refine l_aload_n dL_law_848 0 rfl rfl ?_
  refine l_iload_n dL_law_849 3 rfl rfl ?_
  refine l_iconst (v := 2) dL_law_850 (by decide) ?_
  refine l_iadd dL_law_851 ?_
  refine l_scr (hi 2 (by decide)) dL_law_852 ?_
  refine l_callX hAd (As := [.int (xs (i + 1).toNatClampNeg), .int (xs (i + 2).toNatClampNeg)]) (rest := []) lkL_94 ⟨⟨by decide, by decide⟩, by show kc + 0 ≤ 600000; omega, by show ks + 0 ≤ 7302250; omega⟩ rfl (Nat.le_of_ble_eq_true rfl) dL_law_853 (fun Z hZ hg => m_X10_house hZ (by rw [hg]; exact hX)) ?_
  refine l_aload_n dL_law_856 2 rfl rfl ?_
  refine l_aload_n dL_law_857 0 rfl rfl ?_
  refine l_iload_n dL_law_858 3 rfl rfl ?_
  refine l_iconst (v := 1) dL_law_859 (by decide) ?_
  refine l_iadd dL_law_860 ?_
  refine l_scr (hi 1 (by decide)) dL_law_861 ?_
  refine l_aload_n dL_law_862 0 rfl rfl ?_
  refine l_iload_n dL_law_863 3 rfl rfl ?_
  refine l_iconst (v := 2) dL_law_864 (by decide) ?_
  refine l_iadd dL_law_865 ?_
  refine l_scr (hi 2 (by decide)) dL_law_866 ?_
  refine l_callM hAd (As := [.int (xs (i + 1).toNatClampNeg), .int (xs (i + 2).toNatClampNeg)]) (rest := [.int r]) lkL_97 ⟨⟨by decide, by decide⟩, by show kc + 0 + 0 ≤ 600000; omega, by show ks + 0 + 0 ≤ 7302250; omega⟩ rfl (Nat.le_of_ble_eq_true rfl) dL_law_867 (fun Z hZ hg => m_X11_house hZ (by rw [hg]; exact hM)) ?_
  exact l_same 1268 dL_law_870 (by decide) k
set_option maxRecDepth 100000 in
theorem law_19 {l : Launch} {b L : Nat} {xs : Nat → Int32} {D : va_G} {c : Nat → ClassId} {ad : Nat → Nat → Nat} {sz kc ks : Nat} {g : Nat × Nat} {aX aM : Nat → Nat → Nat} {s u s' u' : St} {i r : Int32} (hAd : LAd sz ad g aX aM) (hi : ∀ k : Nat, k < 6 → vp_in (i + nI k) L) (hkc : kc ≤ 500000) (hks : ks ≤ 7000000) (hX : F_X10_paid g (xs (i + 1).toNatClampNeg) (xs (i + 2).toNatClampNeg) (xs (i + 3).toNatClampNeg) (xs (i + 4).toNatClampNeg) s = some (r, s')) (hM : F_X11_paid g (xs (i + 1).toNatClampNeg) (xs (i + 2).toNatClampNeg) (xs (i + 3).toNatClampNeg) (xs (i + 4).toNatClampNeg) u = some (r, u')) (k : LA l b L xs D c ad sz kc ks 1268 (lvL b aX aM i) [] (LJ D c g aX aM s' u')) : LA l b L xs D c ad sz kc ks 875 (lvL b aX aM i) [] (LJ D c g aX aM s u) := by
  refine l_aload_n dL_law_875 1 rfl rfl ?_
  refine l_aload_n dL_law_876 0 rfl rfl ?_
  refine l_iload_n dL_law_877 3 rfl rfl ?_
  refine l_iconst (v := 1) dL_law_878 (by decide) ?_
  refine l_iadd dL_law_879 ?_
  refine l_scr (hi 1 (by decide)) dL_law_880 ?_
  refine l_aload_n dL_law_881 0 rfl rfl ?_
  refine l_iload_n dL_law_882 3 rfl rfl ?_
  refine l_iconst (v := 2) dL_law_883 (by decide) ?_
  refine l_iadd dL_law_884 ?_
  refine l_scr (hi 2 (by decide)) dL_law_885 ?_
  refine l_aload_n dL_law_886 0 rfl rfl ?_
  refine l_iload_n dL_law_887 3 rfl rfl ?_
  refine l_iconst (v := 3) dL_law_888 (by decide) ?_
  refine l_iadd dL_law_889 ?_
  refine l_scr (hi 3 (by decide)) dL_law_890 ?_
  refine l_aload_n dL_law_891 0 rfl rfl ?_
  refine l_iload_n dL_law_892 3 rfl rfl ?_
  refine l_iconst (v := 4) dL_law_893 (by decide) ?_
  refine l_iadd dL_law_894 ?_
  refine l_scr (hi 4 (by decide)) dL_law_895 ?_
  refine l_callX hAd (As := [.int (xs (i + 1).toNatClampNeg), .int (xs (i + 2).toNatClampNeg), .int (xs (i + 3).toNatClampNeg), .int (xs (i + 4).toNatClampNeg)]) (rest := []) lkL_98 ⟨⟨by decide, by decide⟩, by show kc + 0 ≤ 600000; omega, by show ks + 0 ≤ 7302250; omega⟩ rfl (Nat.le_of_ble_eq_true rfl) dL_law_896 (fun Z hZ hg => m_X10_paid hZ (by rw [hg]; exact hX)) ?_
  refine l_aload_n dL_law_899 2 rfl rfl ?_
  refine l_aload_n dL_law_900 0 rfl rfl ?_
  refine l_iload_n dL_law_901 3 rfl rfl ?_
  refine l_iconst (v := 1) dL_law_902 (by decide) ?_
  refine l_iadd dL_law_903 ?_
  refine l_scr (hi 1 (by decide)) dL_law_904 ?_
  refine l_aload_n dL_law_905 0 rfl rfl ?_
  refine l_iload_n dL_law_906 3 rfl rfl ?_
  refine l_iconst (v := 2) dL_law_907 (by decide) ?_
  refine l_iadd dL_law_908 ?_
  refine l_scr (hi 2 (by decide)) dL_law_909 ?_
  refine l_aload_n dL_law_910 0 rfl rfl ?_
  refine l_iload_n dL_law_911 3 rfl rfl ?_
  refine l_iconst (v := 3) dL_law_912 (by decide) ?_
  refine l_iadd dL_law_913 ?_
  refine l_scr (hi 3 (by decide)) dL_law_914 ?_
  refine l_aload_n dL_law_915 0 rfl rfl ?_
  refine l_iload_n dL_law_916 3 rfl rfl ?_
  refine l_iconst (v := 4) dL_law_917 (by decide) ?_
  refine l_iadd dL_law_918 ?_
  refine l_scr (hi 4 (by decide)) dL_law_919 ?_
  refine l_callM hAd (As := [.int (xs (i + 1).toNatClampNeg), .int (xs (i + 2).toNatClampNeg), .int (xs (i + 3).toNatClampNeg), .int (xs (i + 4).toNatClampNeg)]) (rest := [.int r]) lkL_101 ⟨⟨by decide, by decide⟩, by show kc + 0 + 0 ≤ 600000; omega, by show ks + 0 + 0 ≤ 7302250; omega⟩ rfl (Nat.le_of_ble_eq_true rfl) dL_law_920 (fun Z hZ hg => m_X11_paid hZ (by rw [hg]; exact hM)) ?_
  exact l_same 1268 dL_law_923 (by decide) k
set_option maxRecDepth 100000 in
theorem law_20 {l : Launch} {b L : Nat} {xs : Nat → Int32} {D : va_G} {c : Nat → ClassId} {ad : Nat → Nat → Nat} {sz kc ks : Nat} {g : Nat × Nat} {aX aM : Nat → Nat → Nat} {s u s' u' : St} {i r : Int32} (hAd : LAd sz ad g aX aM) (hi : ∀ k : Nat, k < 6 → vp_in (i + nI k) L) (hkc : kc ≤ 500000) (hks : ks ≤ 7000000) (hX : F_X10_thing g (xs (i + 1).toNatClampNeg) (xs (i + 2).toNatClampNeg) (xs (i + 3).toNatClampNeg) s = some (r, s')) (hM : F_X11_thing g (xs (i + 1).toNatClampNeg) (xs (i + 2).toNatClampNeg) (xs (i + 3).toNatClampNeg) u = some (r, u')) (k : LA l b L xs D c ad sz kc ks 1268 (lvL b aX aM i) [] (LJ D c g aX aM s' u')) : LA l b L xs D c ad sz kc ks 928 (lvL b aX aM i) [] (LJ D c g aX aM s u) := by
  refine l_aload_n dL_law_928 1 rfl rfl ?_
  refine l_aload_n dL_law_929 0 rfl rfl ?_
  refine l_iload_n dL_law_930 3 rfl rfl ?_
  refine l_iconst (v := 1) dL_law_931 (by decide) ?_
  refine l_iadd dL_law_932 ?_
  refine l_scr (hi 1 (by decide)) dL_law_933 ?_
  refine l_aload_n dL_law_934 0 rfl rfl ?_
  refine l_iload_n dL_law_935 3 rfl rfl ?_
  refine l_iconst (v := 2) dL_law_936 (by decide) ?_
  refine l_iadd dL_law_937 ?_
  refine l_scr (hi 2 (by decide)) dL_law_938 ?_
  refine l_aload_n dL_law_939 0 rfl rfl ?_
  refine l_iload_n dL_law_940 3 rfl rfl ?_
  refine l_iconst (v := 3) dL_law_941 (by decide) ?_
  refine l_iadd dL_law_942 ?_
  refine l_scr (hi 3 (by decide)) dL_law_943 ?_
  refine l_callX hAd (As := [.int (xs (i + 1).toNatClampNeg), .int (xs (i + 2).toNatClampNeg), .int (xs (i + 3).toNatClampNeg)]) (rest := []) lkL_102 ⟨⟨by decide, by decide⟩, by show kc + 0 ≤ 600000; omega, by show ks + 0 ≤ 7302250; omega⟩ rfl (Nat.le_of_ble_eq_true rfl) dL_law_944 (fun Z hZ hg => m_X10_thing hZ (by rw [hg]; exact hX)) ?_
  refine l_aload_n dL_law_947 2 rfl rfl ?_
  refine l_aload_n dL_law_948 0 rfl rfl ?_
  refine l_iload_n dL_law_949 3 rfl rfl ?_
  refine l_iconst (v := 1) dL_law_950 (by decide) ?_
  refine l_iadd dL_law_951 ?_
  refine l_scr (hi 1 (by decide)) dL_law_952 ?_
  refine l_aload_n dL_law_953 0 rfl rfl ?_
  refine l_iload_n dL_law_954 3 rfl rfl ?_
  refine l_iconst (v := 2) dL_law_955 (by decide) ?_
  refine l_iadd dL_law_956 ?_
  refine l_scr (hi 2 (by decide)) dL_law_957 ?_
  refine l_aload_n dL_law_958 0 rfl rfl ?_
  refine l_iload_n dL_law_959 3 rfl rfl ?_
  refine l_iconst (v := 3) dL_law_960 (by decide) ?_
  refine l_iadd dL_law_961 ?_
  refine l_scr (hi 3 (by decide)) dL_law_962 ?_
  refine l_callM hAd (As := [.int (xs (i + 1).toNatClampNeg), .int (xs (i + 2).toNatClampNeg), .int (xs (i + 3).toNatClampNeg)]) (rest := [.int r]) lkL_105 ⟨⟨by decide, by decide⟩, by show kc + 0 + 0 ≤ 600000; omega, by show ks + 0 + 0 ≤ 7302250; omega⟩ rfl (Nat.le_of_ble_eq_true rfl) dL_law_963 (fun Z hZ hg => m_X11_thing hZ (by rw [hg]; exact hM)) ?_
  exact l_same 1268 dL_law_966 (by decide) k
set_option maxRecDepth 100000 in
theorem law_21 {l : Launch} {b L : Nat} {xs : Nat → Int32} {D : va_G} {c : Nat → ClassId} {ad : Nat → Nat → Nat} {sz kc ks : Nat} {g : Nat × Nat} {aX aM : Nat → Nat → Nat} {s u s' u' : St} {i r : Int32} (hAd : LAd sz ad g aX aM) (hi : ∀ k : Nat, k < 6 → vp_in (i + nI k) L) (hkc : kc ≤ 500000) (hks : ks ≤ 7000000) (hX : F_X10_works g (xs (i + 1).toNatClampNeg) (xs (i + 2).toNatClampNeg) (xs (i + 3).toNatClampNeg) (xs (i + 4).toNatClampNeg) (xs (i + 5).toNatClampNeg) s = some (r, s')) (hM : F_X11_works g (xs (i + 1).toNatClampNeg) (xs (i + 2).toNatClampNeg) (xs (i + 3).toNatClampNeg) (xs (i + 4).toNatClampNeg) (xs (i + 5).toNatClampNeg) u = some (r, u')) (k : LA l b L xs D c ad sz kc ks 1268 (lvL b aX aM i) [] (LJ D c g aX aM s' u')) : LA l b L xs D c ad sz kc ks 971 (lvL b aX aM i) [] (LJ D c g aX aM s u) := by
  refine l_aload_n dL_law_971 1 rfl rfl ?_
  refine l_aload_n dL_law_972 0 rfl rfl ?_
  refine l_iload_n dL_law_973 3 rfl rfl ?_
  refine l_iconst (v := 1) dL_law_974 (by decide) ?_
  refine l_iadd dL_law_975 ?_
  refine l_scr (hi 1 (by decide)) dL_law_976 ?_
  refine l_aload_n dL_law_977 0 rfl rfl ?_
  refine l_iload_n dL_law_978 3 rfl rfl ?_
  refine l_iconst (v := 2) dL_law_979 (by decide) ?_
  refine l_iadd dL_law_980 ?_
  refine l_scr (hi 2 (by decide)) dL_law_981 ?_
  refine l_aload_n dL_law_982 0 rfl rfl ?_
  refine l_iload_n dL_law_983 3 rfl rfl ?_
  refine l_iconst (v := 3) dL_law_984 (by decide) ?_
  refine l_iadd dL_law_985 ?_
  refine l_scr (hi 3 (by decide)) dL_law_986 ?_
  refine l_aload_n dL_law_987 0 rfl rfl ?_
  refine l_iload_n dL_law_988 3 rfl rfl ?_
  refine l_iconst (v := 4) dL_law_989 (by decide) ?_
  refine l_iadd dL_law_990 ?_
  refine l_scr (hi 4 (by decide)) dL_law_991 ?_
  refine l_aload_n dL_law_992 0 rfl rfl ?_
  refine l_iload_n dL_law_993 3 rfl rfl ?_
  refine l_iconst (v := 5) dL_law_994 (by decide) ?_
  refine l_iadd dL_law_995 ?_
  refine l_scr (hi 5 (by decide)) dL_law_996 ?_
  refine l_callX hAd (As := [.int (xs (i + 1).toNatClampNeg), .int (xs (i + 2).toNatClampNeg), .int (xs (i + 3).toNatClampNeg), .int (xs (i + 4).toNatClampNeg), .int (xs (i + 5).toNatClampNeg)]) (rest := []) lkL_106 ⟨⟨by decide, by decide⟩, by show kc + 0 ≤ 600000; omega, by show ks + 0 ≤ 7302250; omega⟩ rfl (Nat.le_of_ble_eq_true rfl) dL_law_997 (fun Z hZ hg => m_X10_works hZ (by rw [hg]; exact hX)) ?_
  refine l_aload_n dL_law_1000 2 rfl rfl ?_
  refine l_aload_n dL_law_1001 0 rfl rfl ?_
  refine l_iload_n dL_law_1002 3 rfl rfl ?_
  refine l_iconst (v := 1) dL_law_1003 (by decide) ?_
  refine l_iadd dL_law_1004 ?_
  refine l_scr (hi 1 (by decide)) dL_law_1005 ?_
  refine l_aload_n dL_law_1006 0 rfl rfl ?_
  refine l_iload_n dL_law_1007 3 rfl rfl ?_
  refine l_iconst (v := 2) dL_law_1008 (by decide) ?_
  refine l_iadd dL_law_1009 ?_
  refine l_scr (hi 2 (by decide)) dL_law_1010 ?_
  refine l_aload_n dL_law_1011 0 rfl rfl ?_
  refine l_iload_n dL_law_1012 3 rfl rfl ?_
  refine l_iconst (v := 3) dL_law_1013 (by decide) ?_
  refine l_iadd dL_law_1014 ?_
  refine l_scr (hi 3 (by decide)) dL_law_1015 ?_
  refine l_aload_n dL_law_1016 0 rfl rfl ?_
  refine l_iload_n dL_law_1017 3 rfl rfl ?_
  refine l_iconst (v := 4) dL_law_1018 (by decide) ?_
  refine l_iadd dL_law_1019 ?_
  refine l_scr (hi 4 (by decide)) dL_law_1020 ?_
  refine l_aload_n dL_law_1021 0 rfl rfl ?_
  refine l_iload_n dL_law_1022 3 rfl rfl ?_
  refine l_iconst (v := 5) dL_law_1023 (by decide) ?_
  refine l_iadd dL_law_1024 ?_
  refine l_scr (hi 5 (by decide)) dL_law_1025 ?_
  refine l_callM hAd (As := [.int (xs (i + 1).toNatClampNeg), .int (xs (i + 2).toNatClampNeg), .int (xs (i + 3).toNatClampNeg), .int (xs (i + 4).toNatClampNeg), .int (xs (i + 5).toNatClampNeg)]) (rest := [.int r]) lkL_109 ⟨⟨by decide, by decide⟩, by show kc + 0 + 0 ≤ 600000; omega, by show ks + 0 + 0 ≤ 7302250; omega⟩ rfl (Nat.le_of_ble_eq_true rfl) dL_law_1026 (fun Z hZ hg => m_X11_works hZ (by rw [hg]; exact hM)) ?_
  exact l_same 1268 dL_law_1029 (by decide) k
set_option maxRecDepth 100000 in
theorem law_22 {l : Launch} {b L : Nat} {xs : Nat → Int32} {D : va_G} {c : Nat → ClassId} {ad : Nat → Nat → Nat} {sz kc ks : Nat} {g : Nat × Nat} {aX aM : Nat → Nat → Nat} {s u s' u' : St} {i r : Int32} (hAd : LAd sz ad g aX aM) (hi : ∀ k : Nat, k < 6 → vp_in (i + nI k) L) (hkc : kc ≤ 500000) (hks : ks ≤ 7000000) (hX : F_X10_news g (xs (i + 1).toNatClampNeg) (xs (i + 2).toNatClampNeg) (xs (i + 3).toNatClampNeg) (xs (i + 4).toNatClampNeg) s = some (r, s')) (hM : F_X11_news g (xs (i + 1).toNatClampNeg) (xs (i + 2).toNatClampNeg) (xs (i + 3).toNatClampNeg) (xs (i + 4).toNatClampNeg) u = some (r, u')) (k : LA l b L xs D c ad sz kc ks 1268 (lvL b aX aM i) [] (LJ D c g aX aM s' u')) : LA l b L xs D c ad sz kc ks 1034 (lvL b aX aM i) [] (LJ D c g aX aM s u) := by
  refine l_aload_n dL_law_1034 1 rfl rfl ?_
  refine l_aload_n dL_law_1035 0 rfl rfl ?_
  refine l_iload_n dL_law_1036 3 rfl rfl ?_
  refine l_iconst (v := 1) dL_law_1037 (by decide) ?_
  refine l_iadd dL_law_1038 ?_
  refine l_scr (hi 1 (by decide)) dL_law_1039 ?_
  refine l_aload_n dL_law_1040 0 rfl rfl ?_
  refine l_iload_n dL_law_1041 3 rfl rfl ?_
  refine l_iconst (v := 2) dL_law_1042 (by decide) ?_
  refine l_iadd dL_law_1043 ?_
  refine l_scr (hi 2 (by decide)) dL_law_1044 ?_
  refine l_aload_n dL_law_1045 0 rfl rfl ?_
  refine l_iload_n dL_law_1046 3 rfl rfl ?_
  refine l_iconst (v := 3) dL_law_1047 (by decide) ?_
  refine l_iadd dL_law_1048 ?_
  refine l_scr (hi 3 (by decide)) dL_law_1049 ?_
  refine l_aload_n dL_law_1050 0 rfl rfl ?_
  refine l_iload_n dL_law_1051 3 rfl rfl ?_
  refine l_iconst (v := 4) dL_law_1052 (by decide) ?_
  refine l_iadd dL_law_1053 ?_
  refine l_scr (hi 4 (by decide)) dL_law_1054 ?_
  refine l_callX hAd (As := [.int (xs (i + 1).toNatClampNeg), .int (xs (i + 2).toNatClampNeg), .int (xs (i + 3).toNatClampNeg), .int (xs (i + 4).toNatClampNeg)]) (rest := []) lkL_110 ⟨⟨by decide, by decide⟩, by show kc + 0 ≤ 600000; omega, by show ks + 0 ≤ 7302250; omega⟩ rfl (Nat.le_of_ble_eq_true rfl) dL_law_1055 (fun Z hZ hg => m_X10_news hZ (by rw [hg]; exact hX)) ?_
  refine l_aload_n dL_law_1058 2 rfl rfl ?_
  refine l_aload_n dL_law_1059 0 rfl rfl ?_
  refine l_iload_n dL_law_1060 3 rfl rfl ?_
  refine l_iconst (v := 1) dL_law_1061 (by decide) ?_
  refine l_iadd dL_law_1062 ?_
  refine l_scr (hi 1 (by decide)) dL_law_1063 ?_
  refine l_aload_n dL_law_1064 0 rfl rfl ?_
  refine l_iload_n dL_law_1065 3 rfl rfl ?_
  refine l_iconst (v := 2) dL_law_1066 (by decide) ?_
  refine l_iadd dL_law_1067 ?_
  refine l_scr (hi 2 (by decide)) dL_law_1068 ?_
  refine l_aload_n dL_law_1069 0 rfl rfl ?_
  refine l_iload_n dL_law_1070 3 rfl rfl ?_
  refine l_iconst (v := 3) dL_law_1071 (by decide) ?_
  refine l_iadd dL_law_1072 ?_
  refine l_scr (hi 3 (by decide)) dL_law_1073 ?_
  refine l_aload_n dL_law_1074 0 rfl rfl ?_
  refine l_iload_n dL_law_1075 3 rfl rfl ?_
  refine l_iconst (v := 4) dL_law_1076 (by decide) ?_
  refine l_iadd dL_law_1077 ?_
  refine l_scr (hi 4 (by decide)) dL_law_1078 ?_
  refine l_callM hAd (As := [.int (xs (i + 1).toNatClampNeg), .int (xs (i + 2).toNatClampNeg), .int (xs (i + 3).toNatClampNeg), .int (xs (i + 4).toNatClampNeg)]) (rest := [.int r]) lkL_113 ⟨⟨by decide, by decide⟩, by show kc + 0 + 0 ≤ 600000; omega, by show ks + 0 + 0 ≤ 7302250; omega⟩ rfl (Nat.le_of_ble_eq_true rfl) dL_law_1079 (fun Z hZ hg => m_X11_news hZ (by rw [hg]; exact hM)) ?_
  exact l_same 1268 dL_law_1082 (by decide) k
set_option maxRecDepth 100000 in
theorem law_23 {l : Launch} {b L : Nat} {xs : Nat → Int32} {D : va_G} {c : Nat → ClassId} {ad : Nat → Nat → Nat} {sz kc ks : Nat} {g : Nat × Nat} {aX aM : Nat → Nat → Nat} {s u s' u' : St} {i r : Int32} (hAd : LAd sz ad g aX aM) (hi : ∀ k : Nat, k < 6 → vp_in (i + nI k) L) (hkc : kc ≤ 500000) (hks : ks ≤ 7000000) (hX : F_X10_known g (xs (i + 1).toNatClampNeg) (xs (i + 2).toNatClampNeg) s = some (r, s')) (hM : F_X11_known g (xs (i + 1).toNatClampNeg) (xs (i + 2).toNatClampNeg) u = some (r, u')) (k : LA l b L xs D c ad sz kc ks 1268 (lvL b aX aM i) [] (LJ D c g aX aM s' u')) : LA l b L xs D c ad sz kc ks 1087 (lvL b aX aM i) [] (LJ D c g aX aM s u) := by
  refine l_aload_n dL_law_1087 1 rfl rfl ?_
  refine l_aload_n dL_law_1088 0 rfl rfl ?_
  refine l_iload_n dL_law_1089 3 rfl rfl ?_
  refine l_iconst (v := 1) dL_law_1090 (by decide) ?_
  refine l_iadd dL_law_1091 ?_
  refine l_scr (hi 1 (by decide)) dL_law_1092 ?_
  refine l_aload_n dL_law_1093 0 rfl rfl ?_
  refine l_iload_n dL_law_1094 3 rfl rfl ?_
  refine l_iconst (v := 2) dL_law_1095 (by decide) ?_
  refine l_iadd dL_law_1096 ?_
  refine l_scr (hi 2 (by decide)) dL_law_1097 ?_
  refine l_callX hAd (As := [.int (xs (i + 1).toNatClampNeg), .int (xs (i + 2).toNatClampNeg)]) (rest := []) lkL_114 ⟨⟨by decide, by decide⟩, by show kc + 0 ≤ 600000; omega, by show ks + 0 ≤ 7302250; omega⟩ rfl (Nat.le_of_ble_eq_true rfl) dL_law_1098 (fun Z hZ hg => m_X10_known hZ (by rw [hg]; exact hX)) ?_
  refine l_aload_n dL_law_1101 2 rfl rfl ?_
  refine l_aload_n dL_law_1102 0 rfl rfl ?_
  refine l_iload_n dL_law_1103 3 rfl rfl ?_
  refine l_iconst (v := 1) dL_law_1104 (by decide) ?_
  refine l_iadd dL_law_1105 ?_
  refine l_scr (hi 1 (by decide)) dL_law_1106 ?_
  refine l_aload_n dL_law_1107 0 rfl rfl ?_
  refine l_iload_n dL_law_1108 3 rfl rfl ?_
  refine l_iconst (v := 2) dL_law_1109 (by decide) ?_
  refine l_iadd dL_law_1110 ?_
  refine l_scr (hi 2 (by decide)) dL_law_1111 ?_
  refine l_callM hAd (As := [.int (xs (i + 1).toNatClampNeg), .int (xs (i + 2).toNatClampNeg)]) (rest := [.int r]) lkL_117 ⟨⟨by decide, by decide⟩, by show kc + 0 + 0 ≤ 600000; omega, by show ks + 0 + 0 ≤ 7302250; omega⟩ rfl (Nat.le_of_ble_eq_true rfl) dL_law_1112 (fun Z hZ hg => m_X11_known hZ (by rw [hg]; exact hM)) ?_
  exact l_same 1268 dL_law_1115 (by decide) k
set_option maxRecDepth 100000 in
theorem law_24 {l : Launch} {b L : Nat} {xs : Nat → Int32} {D : va_G} {c : Nat → ClassId} {ad : Nat → Nat → Nat} {sz kc ks : Nat} {g : Nat × Nat} {aX aM : Nat → Nat → Nat} {s u s' u' : St} {i r : Int32} (hAd : LAd sz ad g aX aM) (hi : ∀ k : Nat, k < 6 → vp_in (i + nI k) L) (hkc : kc ≤ 500000) (hks : ks ≤ 7000000) (hX : F_X10_kind g (xs (i + 1).toNatClampNeg) s = some (r, s')) (hM : F_X11_kind g (xs (i + 1).toNatClampNeg) u = some (r, u')) (k : LA l b L xs D c ad sz kc ks 1268 (lvL b aX aM i) [] (LJ D c g aX aM s' u')) : LA l b L xs D c ad sz kc ks 1120 (lvL b aX aM i) [] (LJ D c g aX aM s u) := by
  refine l_aload_n dL_law_1120 1 rfl rfl ?_
  refine l_aload_n dL_law_1121 0 rfl rfl ?_
  refine l_iload_n dL_law_1122 3 rfl rfl ?_
  refine l_iconst (v := 1) dL_law_1123 (by decide) ?_
  refine l_iadd dL_law_1124 ?_
  refine l_scr (hi 1 (by decide)) dL_law_1125 ?_
  refine l_callX hAd (As := [.int (xs (i + 1).toNatClampNeg)]) (rest := []) lkL_118 ⟨⟨by decide, by decide⟩, by show kc + 0 ≤ 600000; omega, by show ks + 0 ≤ 7302250; omega⟩ rfl (Nat.le_of_ble_eq_true rfl) dL_law_1126 (fun Z hZ hg => m_X10_kind hZ (by rw [hg]; exact hX)) ?_
  refine l_aload_n dL_law_1129 2 rfl rfl ?_
  refine l_aload_n dL_law_1130 0 rfl rfl ?_
  refine l_iload_n dL_law_1131 3 rfl rfl ?_
  refine l_iconst (v := 1) dL_law_1132 (by decide) ?_
  refine l_iadd dL_law_1133 ?_
  refine l_scr (hi 1 (by decide)) dL_law_1134 ?_
  refine l_callM hAd (As := [.int (xs (i + 1).toNatClampNeg)]) (rest := [.int r]) lkL_121 ⟨⟨by decide, by decide⟩, by show kc + 0 + 0 ≤ 600000; omega, by show ks + 0 + 0 ≤ 7302250; omega⟩ rfl (Nat.le_of_ble_eq_true rfl) dL_law_1135 (fun Z hZ hg => m_X11_kind hZ (by rw [hg]; exact hM)) ?_
  exact l_same 1268 dL_law_1138 (by decide) k
set_option maxRecDepth 100000 in
theorem law_25 {l : Launch} {b L : Nat} {xs : Nat → Int32} {D : va_G} {c : Nat → ClassId} {ad : Nat → Nat → Nat} {sz kc ks : Nat} {g : Nat × Nat} {aX aM : Nat → Nat → Nat} {s u s' u' : St} {i r : Int32} (hAd : LAd sz ad g aX aM) (hi : ∀ k : Nat, k < 6 → vp_in (i + nI k) L) (hkc : kc ≤ 500000) (hks : ks ≤ 7000000) (hX : F_X10_as g (xs (i + 1).toNatClampNeg) (xs (i + 2).toNatClampNeg) s = some (r, s')) (hM : F_X11_as g (xs (i + 1).toNatClampNeg) (xs (i + 2).toNatClampNeg) u = some (r, u')) (k : LA l b L xs D c ad sz kc ks 1268 (lvL b aX aM i) [] (LJ D c g aX aM s' u')) : LA l b L xs D c ad sz kc ks 1143 (lvL b aX aM i) [] (LJ D c g aX aM s u) := by
  refine l_aload_n dL_law_1143 1 rfl rfl ?_
  refine l_aload_n dL_law_1144 0 rfl rfl ?_
  refine l_iload_n dL_law_1145 3 rfl rfl ?_
  refine l_iconst (v := 1) dL_law_1146 (by decide) ?_
  refine l_iadd dL_law_1147 ?_
  refine l_scr (hi 1 (by decide)) dL_law_1148 ?_
  refine l_aload_n dL_law_1149 0 rfl rfl ?_
  refine l_iload_n dL_law_1150 3 rfl rfl ?_
  refine l_iconst (v := 2) dL_law_1151 (by decide) ?_
  refine l_iadd dL_law_1152 ?_
  refine l_scr (hi 2 (by decide)) dL_law_1153 ?_
  refine l_callX hAd (As := [.int (xs (i + 1).toNatClampNeg), .int (xs (i + 2).toNatClampNeg)]) (rest := []) lkL_122 ⟨⟨by decide, by decide⟩, by show kc + 0 ≤ 600000; omega, by show ks + 0 ≤ 7302250; omega⟩ rfl (Nat.le_of_ble_eq_true rfl) dL_law_1154 (fun Z hZ hg => m_X10_as hZ (by rw [hg]; exact hX)) ?_
  refine l_aload_n dL_law_1157 2 rfl rfl ?_
  refine l_aload_n dL_law_1158 0 rfl rfl ?_
  refine l_iload_n dL_law_1159 3 rfl rfl ?_
  refine l_iconst (v := 1) dL_law_1160 (by decide) ?_
  refine l_iadd dL_law_1161 ?_
  refine l_scr (hi 1 (by decide)) dL_law_1162 ?_
  refine l_aload_n dL_law_1163 0 rfl rfl ?_
  refine l_iload_n dL_law_1164 3 rfl rfl ?_
  refine l_iconst (v := 2) dL_law_1165 (by decide) ?_
  refine l_iadd dL_law_1166 ?_
  refine l_scr (hi 2 (by decide)) dL_law_1167 ?_
  refine l_callM hAd (As := [.int (xs (i + 1).toNatClampNeg), .int (xs (i + 2).toNatClampNeg)]) (rest := [.int r]) lkL_125 ⟨⟨by decide, by decide⟩, by show kc + 0 + 0 ≤ 600000; omega, by show ks + 0 + 0 ≤ 7302250; omega⟩ rfl (Nat.le_of_ble_eq_true rfl) dL_law_1168 (fun Z hZ hg => m_X11_as hZ (by rw [hg]; exact hM)) ?_
  exact l_same 1268 dL_law_1171 (by decide) k
set_option maxRecDepth 100000 in
theorem law_26 {l : Launch} {b L : Nat} {xs : Nat → Int32} {D : va_G} {c : Nat → ClassId} {ad : Nat → Nat → Nat} {sz kc ks : Nat} {g : Nat × Nat} {aX aM : Nat → Nat → Nat} {s u s' u' : St} {i r : Int32} (hAd : LAd sz ad g aX aM) (hi : ∀ k : Nat, k < 6 → vp_in (i + nI k) L) (hkc : kc ≤ 500000) (hks : ks ≤ 7000000) (hX : F_X10_ask g (xs (i + 1).toNatClampNeg) (xs (i + 2).toNatClampNeg) s = some (r, s')) (hM : F_X11_ask g (xs (i + 1).toNatClampNeg) (xs (i + 2).toNatClampNeg) u = some (r, u')) (k : LA l b L xs D c ad sz kc ks 1268 (lvL b aX aM i) [] (LJ D c g aX aM s' u')) : LA l b L xs D c ad sz kc ks 1176 (lvL b aX aM i) [] (LJ D c g aX aM s u) := by
  refine l_aload_n dL_law_1176 1 rfl rfl ?_
  refine l_aload_n dL_law_1177 0 rfl rfl ?_
  refine l_iload_n dL_law_1178 3 rfl rfl ?_
  refine l_iconst (v := 1) dL_law_1179 (by decide) ?_
  refine l_iadd dL_law_1180 ?_
  refine l_scr (hi 1 (by decide)) dL_law_1181 ?_
  refine l_aload_n dL_law_1182 0 rfl rfl ?_
  refine l_iload_n dL_law_1183 3 rfl rfl ?_
  refine l_iconst (v := 2) dL_law_1184 (by decide) ?_
  refine l_iadd dL_law_1185 ?_
  refine l_scr (hi 2 (by decide)) dL_law_1186 ?_
  refine l_callX hAd (As := [.int (xs (i + 1).toNatClampNeg), .int (xs (i + 2).toNatClampNeg)]) (rest := []) lkL_126 ⟨⟨by decide, by decide⟩, by show kc + 0 ≤ 600000; omega, by show ks + 0 ≤ 7302250; omega⟩ rfl (Nat.le_of_ble_eq_true rfl) dL_law_1187 (fun Z hZ hg => m_X10_ask hZ (by rw [hg]; exact hX)) ?_
  refine l_aload_n dL_law_1190 2 rfl rfl ?_
  refine l_aload_n dL_law_1191 0 rfl rfl ?_
  refine l_iload_n dL_law_1192 3 rfl rfl ?_
  refine l_iconst (v := 1) dL_law_1193 (by decide) ?_
  refine l_iadd dL_law_1194 ?_
  refine l_scr (hi 1 (by decide)) dL_law_1195 ?_
  refine l_aload_n dL_law_1196 0 rfl rfl ?_
  refine l_iload_n dL_law_1197 3 rfl rfl ?_
  refine l_iconst (v := 2) dL_law_1198 (by decide) ?_
  refine l_iadd dL_law_1199 ?_
  refine l_scr (hi 2 (by decide)) dL_law_1200 ?_
  refine l_callM hAd (As := [.int (xs (i + 1).toNatClampNeg), .int (xs (i + 2).toNatClampNeg)]) (rest := [.int r]) lkL_129 ⟨⟨by decide, by decide⟩, by show kc + 0 + 0 ≤ 600000; omega, by show ks + 0 + 0 ≤ 7302250; omega⟩ rfl (Nat.le_of_ble_eq_true rfl) dL_law_1201 (fun Z hZ hg => m_X11_ask hZ (by rw [hg]; exact hM)) ?_
  exact l_same 1268 dL_law_1204 (by decide) k
set_option maxRecDepth 100000 in
theorem law_27 {l : Launch} {b L : Nat} {xs : Nat → Int32} {D : va_G} {c : Nat → ClassId} {ad : Nat → Nat → Nat} {sz kc ks : Nat} {g : Nat × Nat} {aX aM : Nat → Nat → Nat} {s u s' u' : St} {i r : Int32} (hAd : LAd sz ad g aX aM) (hi : ∀ k : Nat, k < 6 → vp_in (i + nI k) L) (hkc : kc ≤ 500000) (hks : ks ≤ 7000000) (hX : F_X10_trace g (xs (i + 1).toNatClampNeg) s = some (r, s')) (hM : F_X11_trace g (xs (i + 1).toNatClampNeg) u = some (r, u')) (k : LA l b L xs D c ad sz kc ks 1268 (lvL b aX aM i) [] (LJ D c g aX aM s' u')) : LA l b L xs D c ad sz kc ks 1209 (lvL b aX aM i) [] (LJ D c g aX aM s u) := by
  refine l_aload_n dL_law_1209 1 rfl rfl ?_
  refine l_aload_n dL_law_1210 0 rfl rfl ?_
  refine l_iload_n dL_law_1211 3 rfl rfl ?_
  refine l_iconst (v := 1) dL_law_1212 (by decide) ?_
  refine l_iadd dL_law_1213 ?_
  refine l_scr (hi 1 (by decide)) dL_law_1214 ?_
  refine l_callX hAd (As := [.int (xs (i + 1).toNatClampNeg)]) (rest := []) lkL_130 ⟨⟨by decide, by decide⟩, by show kc + 0 ≤ 600000; omega, by show ks + 0 ≤ 7302250; omega⟩ rfl (Nat.le_of_ble_eq_true rfl) dL_law_1215 (fun Z hZ hg => m_X10_trace hZ (by rw [hg]; exact hX)) ?_
  refine l_aload_n dL_law_1218 2 rfl rfl ?_
  refine l_aload_n dL_law_1219 0 rfl rfl ?_
  refine l_iload_n dL_law_1220 3 rfl rfl ?_
  refine l_iconst (v := 1) dL_law_1221 (by decide) ?_
  refine l_iadd dL_law_1222 ?_
  refine l_scr (hi 1 (by decide)) dL_law_1223 ?_
  refine l_callM hAd (As := [.int (xs (i + 1).toNatClampNeg)]) (rest := [.int r]) lkL_133 ⟨⟨by decide, by decide⟩, by show kc + 0 + 0 ≤ 600000; omega, by show ks + 0 + 0 ≤ 7302250; omega⟩ rfl (Nat.le_of_ble_eq_true rfl) dL_law_1224 (fun Z hZ hg => m_X11_trace hZ (by rw [hg]; exact hM)) ?_
  exact l_same 1268 dL_law_1227 (by decide) k
set_option maxRecDepth 100000 in
theorem law_28 {l : Launch} {b L : Nat} {xs : Nat → Int32} {D : va_G} {c : Nat → ClassId} {ad : Nat → Nat → Nat} {sz kc ks : Nat} {g : Nat × Nat} {aX aM : Nat → Nat → Nat} {s u s' u' : St} {i r : Int32} (hAd : LAd sz ad g aX aM) (hi : ∀ k : Nat, k < 6 → vp_in (i + nI k) L) (hkc : kc ≤ 500000) (hks : ks ≤ 7000000) (hX : F_X10_count g (xs (i + 1).toNatClampNeg) s = some (r, s')) (hM : F_X11_count g (xs (i + 1).toNatClampNeg) u = some (r, u')) (k : LA l b L xs D c ad sz kc ks 1268 (lvL b aX aM i) [] (LJ D c g aX aM s' u')) : LA l b L xs D c ad sz kc ks 1232 (lvL b aX aM i) [] (LJ D c g aX aM s u) := by
  refine l_aload_n dL_law_1232 1 rfl rfl ?_
  refine l_aload_n dL_law_1233 0 rfl rfl ?_
  refine l_iload_n dL_law_1234 3 rfl rfl ?_
  refine l_iconst (v := 1) dL_law_1235 (by decide) ?_
  refine l_iadd dL_law_1236 ?_
  refine l_scr (hi 1 (by decide)) dL_law_1237 ?_
  refine l_callX hAd (As := [.int (xs (i + 1).toNatClampNeg)]) (rest := []) lkL_134 ⟨⟨by decide, by decide⟩, by show kc + 0 ≤ 600000; omega, by show ks + 0 ≤ 7302250; omega⟩ rfl (Nat.le_of_ble_eq_true rfl) dL_law_1238 (fun Z hZ hg => m_X10_count hZ (by rw [hg]; exact hX)) ?_
  refine l_aload_n dL_law_1241 2 rfl rfl ?_
  refine l_aload_n dL_law_1242 0 rfl rfl ?_
  refine l_iload_n dL_law_1243 3 rfl rfl ?_
  refine l_iconst (v := 1) dL_law_1244 (by decide) ?_
  refine l_iadd dL_law_1245 ?_
  refine l_scr (hi 1 (by decide)) dL_law_1246 ?_
  refine l_callM hAd (As := [.int (xs (i + 1).toNatClampNeg)]) (rest := [.int r]) lkL_137 ⟨⟨by decide, by decide⟩, by show kc + 0 + 0 ≤ 600000; omega, by show ks + 0 + 0 ≤ 7302250; omega⟩ rfl (Nat.le_of_ble_eq_true rfl) dL_law_1247 (fun Z hZ hg => m_X11_count hZ (by rw [hg]; exact hM)) ?_
  exact l_same 1268 dL_law_1250 (by decide) k
set_option maxRecDepth 100000 in
theorem law_29 {l : Launch} {b L : Nat} {xs : Nat → Int32} {D : va_G} {c : Nat → ClassId} {ad : Nat → Nat → Nat} {sz kc ks : Nat} {g : Nat × Nat} {aX aM : Nat → Nat → Nat} {s u s' u' : St} {i r : Int32} (hAd : LAd sz ad g aX aM) (hi : ∀ k : Nat, k < 6 → vp_in (i + nI k) L) (hkc : kc ≤ 500000) (hks : ks ≤ 7000000) (hX : F_X10_status g  s = some (r, s')) (hM : F_X11_status g  u = some (r, u')) (k : LA l b L xs D c ad sz kc ks 1268 (lvL b aX aM i) [] (LJ D c g aX aM s' u')) : LA l b L xs D c ad sz kc ks 1255 (lvL b aX aM i) [] (LJ D c g aX aM s u) := by
  refine l_aload_n dL_law_1255 1 rfl rfl ?_
  refine l_callX hAd (As := []) (rest := []) lkL_138 ⟨⟨by decide, by decide⟩, by show kc + 0 ≤ 600000; omega, by show ks + 0 ≤ 7302250; omega⟩ rfl (Nat.le_of_ble_eq_true rfl) dL_law_1256 (fun Z hZ hg => m_X10_status hZ (by rw [hg]; exact hX)) ?_
  refine l_aload_n dL_law_1259 2 rfl rfl ?_
  refine l_callM hAd (As := []) (rest := [.int r]) lkL_141 ⟨⟨by decide, by decide⟩, by show kc + 0 + 0 ≤ 600000; omega, by show ks + 0 + 0 ≤ 7302250; omega⟩ rfl (Nat.le_of_ble_eq_true rfl) dL_law_1260 (fun Z hZ hg => m_X11_status hZ (by rw [hg]; exact hM)) ?_
  exact l_same 1268 dL_law_1263 (by decide) k
