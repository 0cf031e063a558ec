/-! ===== the reference's constructor (written by wip/whole/gen2/gen61.py) ===== -/
/-- the numbers of a fresh reference -/
def yF : Nat → Int32 := (upd (upd (upd (upd (upd (upd (upd (upd (upd (upd (upd (upd (upd (upd (fun _ => 0) (Int32.toNatClampNeg 2) 100) (Int32.toNatClampNeg 4) 1000) (Int32.toNatClampNeg (10 + 16 * 0 + 0)) 1000) (Int32.toNatClampNeg (10 + 16 * 0 + 1)) 10) (Int32.toNatClampNeg (10 + 16 * 0 + 2)) 20) (Int32.toNatClampNeg (10 + 16 * 0 + 3)) 100) (Int32.toNatClampNeg (10 + 16 * 0 + 5)) (500 * 0)) (Int32.toNatClampNeg (10 + 16 * 0 + 6)) ((500 * 0) + 500)) (Int32.toNatClampNeg (10 + 16 * 1 + 0)) 1000) (Int32.toNatClampNeg (10 + 16 * 1 + 1)) 10) (Int32.toNatClampNeg (10 + 16 * 1 + 2)) 20) (Int32.toNatClampNeg (10 + 16 * 1 + 3)) 100) (Int32.toNatClampNeg (10 + 16 * 1 + 5)) (500 * 1)) (Int32.toNatClampNeg (10 + 16 * 1 + 6)) ((500 * 1) + 500))
def oModel (G : XG) (a : Nat) (g : Nat → Nat) : va_W := [(a, .inr (7, [.ref (g 0), .ref (g 1), .ref (g 2), .int 0, .ref (g 3), .int 0, .int 0, .ref (g 4), .ref (g 5), .int 0, .int 0, .long 0, .ref (g 6), .long 0])), ((g 0), .inl (xcI G, 102, .inl yF)), ((g 1), .inl (xcI G, 408, .inl (fun _ => 0))), ((g 2), .inl (xcI G, 102, .inl (fun _ => 0))), ((g 3), .inl (xcI G, 150, .inl (fun _ => 0))), ((g 4), .inl (xcI G, 2, .inl (fun _ => 0))), ((g 5), .inl (xcI G, 2, .inl (fun _ => 0))), ((g 6), .inl (xcI G, 3, .inl (fun _ => 0)))]
theorem d61_X8_init_0 : decode cX8_init 0 = .ok (.aload_n 0, 1) := by decide +kernel
theorem d61_X8_init_1 : decode cX8_init 1 = .ok (.invokespecial 1, 3) := by decide +kernel
theorem d61_X8_init_4 : decode cX8_init 4 = .ok (.aload_n 0, 1) := by decide +kernel
theorem d61_X8_init_5 : decode cX8_init 5 = .ok (.bipush 102, 2) := by decide +kernel
theorem d61_X8_init_7 : decode cX8_init 7 = .ok (.newarray .int, 2) := by decide +kernel
theorem d61_X8_init_9 : decode cX8_init 9 = .ok (.putfield 7, 3) := by decide +kernel
theorem d61_X8_init_12 : decode cX8_init 12 = .ok (.aload_n 0, 1) := by decide +kernel
theorem d61_X8_init_13 : decode cX8_init 13 = .ok (.sipush 408, 3) := by decide +kernel
theorem d61_X8_init_16 : decode cX8_init 16 = .ok (.newarray .int, 2) := by decide +kernel
theorem d61_X8_init_18 : decode cX8_init 18 = .ok (.putfield 13, 3) := by decide +kernel
theorem d61_X8_init_21 : decode cX8_init 21 = .ok (.aload_n 0, 1) := by decide +kernel
theorem d61_X8_init_22 : decode cX8_init 22 = .ok (.bipush 102, 2) := by decide +kernel
theorem d61_X8_init_24 : decode cX8_init 24 = .ok (.newarray .int, 2) := by decide +kernel
theorem d61_X8_init_26 : decode cX8_init 26 = .ok (.putfield 16, 3) := by decide +kernel
theorem d61_X8_init_29 : decode cX8_init 29 = .ok (.aload_n 0, 1) := by decide +kernel
theorem d61_X8_init_30 : decode cX8_init 30 = .ok (.sipush 150, 3) := by decide +kernel
theorem d61_X8_init_33 : decode cX8_init 33 = .ok (.newarray .int, 2) := by decide +kernel
theorem d61_X8_init_35 : decode cX8_init 35 = .ok (.putfield 19, 3) := by decide +kernel
theorem d61_X8_init_38 : decode cX8_init 38 = .ok (.aload_n 0, 1) := by decide +kernel
theorem d61_X8_init_39 : decode cX8_init 39 = .ok (.iconst 2, 1) := by decide +kernel
theorem d61_X8_init_40 : decode cX8_init 40 = .ok (.newarray .int, 2) := by decide +kernel
theorem d61_X8_init_42 : decode cX8_init 42 = .ok (.putfield 22, 3) := by decide +kernel
theorem d61_X8_init_45 : decode cX8_init 45 = .ok (.aload_n 0, 1) := by decide +kernel
theorem d61_X8_init_46 : decode cX8_init 46 = .ok (.iconst 2, 1) := by decide +kernel
theorem d61_X8_init_47 : decode cX8_init 47 = .ok (.newarray .int, 2) := by decide +kernel
theorem d61_X8_init_49 : decode cX8_init 49 = .ok (.putfield 25, 3) := by decide +kernel
theorem d61_X8_init_52 : decode cX8_init 52 = .ok (.aload_n 0, 1) := by decide +kernel
theorem d61_X8_init_53 : decode cX8_init 53 = .ok (.iconst 3, 1) := by decide +kernel
theorem d61_X8_init_54 : decode cX8_init 54 = .ok (.newarray .int, 2) := by decide +kernel
theorem d61_X8_init_56 : decode cX8_init 56 = .ok (.putfield 28, 3) := by decide +kernel
theorem d61_X8_init_59 : decode cX8_init 59 = .ok (.aload_n 0, 1) := by decide +kernel
theorem d61_X8_init_60 : decode cX8_init 60 = .ok (.getfield 7, 3) := by decide +kernel
theorem d61_X8_init_63 : decode cX8_init 63 = .ok (.iconst 2, 1) := by decide +kernel
theorem d61_X8_init_64 : decode cX8_init 64 = .ok (.bipush 100, 2) := by decide +kernel
theorem d61_X8_init_66 : decode cX8_init 66 = .ok (.iastore, 1) := by decide +kernel
theorem d61_X8_init_67 : decode cX8_init 67 = .ok (.aload_n 0, 1) := by decide +kernel
theorem d61_X8_init_68 : decode cX8_init 68 = .ok (.getfield 7, 3) := by decide +kernel
theorem d61_X8_init_71 : decode cX8_init 71 = .ok (.iconst 4, 1) := by decide +kernel
theorem d61_X8_init_72 : decode cX8_init 72 = .ok (.sipush 1000, 3) := by decide +kernel
theorem d61_X8_init_75 : decode cX8_init 75 = .ok (.iastore, 1) := by decide +kernel
theorem d61_X8_init_76 : decode cX8_init 76 = .ok (.iconst 0, 1) := by decide +kernel
theorem d61_X8_init_77 : decode cX8_init 77 = .ok (.istore_n 1, 1) := by decide +kernel
theorem d61_X8_init_78 : decode cX8_init 78 = .ok (.iload_n 1, 1) := by decide +kernel
theorem d61_X8_init_79 : decode cX8_init 79 = .ok (.iconst 2, 1) := by decide +kernel
theorem d61_X8_init_80 : decode cX8_init 80 = .ok (.if_icmp .ge 69, 3) := by decide +kernel
theorem d61_X8_init_83 : decode cX8_init 83 = .ok (.aload_n 0, 1) := by decide +kernel
theorem d61_X8_init_84 : decode cX8_init 84 = .ok (.iload_n 1, 1) := by decide +kernel
theorem d61_X8_init_85 : decode cX8_init 85 = .ok (.iconst 0, 1) := by decide +kernel
theorem d61_X8_init_86 : decode cX8_init 86 = .ok (.sipush 1000, 3) := by decide +kernel
theorem d61_X8_init_89 : decode cX8_init 89 = .ok (.invokevirtual 31, 3) := by decide +kernel
theorem d61_X8_init_92 : decode cX8_init 92 = .ok (.aload_n 0, 1) := by decide +kernel
theorem d61_X8_init_93 : decode cX8_init 93 = .ok (.iload_n 1, 1) := by decide +kernel
theorem d61_X8_init_94 : decode cX8_init 94 = .ok (.iconst 1, 1) := by decide +kernel
theorem d61_X8_init_95 : decode cX8_init 95 = .ok (.bipush 10, 2) := by decide +kernel
theorem d61_X8_init_97 : decode cX8_init 97 = .ok (.invokevirtual 31, 3) := by decide +kernel
theorem d61_X8_init_100 : decode cX8_init 100 = .ok (.aload_n 0, 1) := by decide +kernel
theorem d61_X8_init_101 : decode cX8_init 101 = .ok (.iload_n 1, 1) := by decide +kernel
theorem d61_X8_init_102 : decode cX8_init 102 = .ok (.iconst 2, 1) := by decide +kernel
theorem d61_X8_init_103 : decode cX8_init 103 = .ok (.bipush 20, 2) := by decide +kernel
theorem d61_X8_init_105 : decode cX8_init 105 = .ok (.invokevirtual 31, 3) := by decide +kernel
theorem d61_X8_init_108 : decode cX8_init 108 = .ok (.aload_n 0, 1) := by decide +kernel
theorem d61_X8_init_109 : decode cX8_init 109 = .ok (.iload_n 1, 1) := by decide +kernel
theorem d61_X8_init_110 : decode cX8_init 110 = .ok (.iconst 3, 1) := by decide +kernel
theorem d61_X8_init_111 : decode cX8_init 111 = .ok (.bipush 100, 2) := by decide +kernel
theorem d61_X8_init_113 : decode cX8_init 113 = .ok (.invokevirtual 31, 3) := by decide +kernel
theorem d61_X8_init_116 : decode cX8_init 116 = .ok (.aload_n 0, 1) := by decide +kernel
theorem d61_X8_init_117 : decode cX8_init 117 = .ok (.iload_n 1, 1) := by decide +kernel
theorem d61_X8_init_118 : decode cX8_init 118 = .ok (.iconst 5, 1) := by decide +kernel
theorem d61_X8_init_119 : decode cX8_init 119 = .ok (.sipush 500, 3) := by decide +kernel
theorem d61_X8_init_122 : decode cX8_init 122 = .ok (.iload_n 1, 1) := by decide +kernel
theorem d61_X8_init_123 : decode cX8_init 123 = .ok (.imul, 1) := by decide +kernel
theorem d61_X8_init_124 : decode cX8_init 124 = .ok (.invokevirtual 31, 3) := by decide +kernel
theorem d61_X8_init_127 : decode cX8_init 127 = .ok (.aload_n 0, 1) := by decide +kernel
theorem d61_X8_init_128 : decode cX8_init 128 = .ok (.iload_n 1, 1) := by decide +kernel
theorem d61_X8_init_129 : decode cX8_init 129 = .ok (.bipush 6, 2) := by decide +kernel
theorem d61_X8_init_131 : decode cX8_init 131 = .ok (.sipush 500, 3) := by decide +kernel
theorem d61_X8_init_134 : decode cX8_init 134 = .ok (.iload_n 1, 1) := by decide +kernel
theorem d61_X8_init_135 : decode cX8_init 135 = .ok (.imul, 1) := by decide +kernel
theorem d61_X8_init_136 : decode cX8_init 136 = .ok (.sipush 500, 3) := by decide +kernel
theorem d61_X8_init_139 : decode cX8_init 139 = .ok (.iadd, 1) := by decide +kernel
theorem d61_X8_init_140 : decode cX8_init 140 = .ok (.invokevirtual 31, 3) := by decide +kernel
theorem d61_X8_init_143 : decode cX8_init 143 = .ok (.iinc 1 1, 3) := by decide +kernel
theorem d61_X8_init_146 : decode cX8_init 146 = .ok (.goto (-68), 3) := by decide +kernel
theorem d61_X8_init_149 : decode cX8_init 149 = .ok (.return_, 1) := by decide +kernel
set_option maxRecDepth 100000 in
set_option maxHeartbeats 4000000 in
theorem yM_X8_init (l : Launch) : yMet l yX8_init cX8_init 2 1 7 769 7 [] oModel := by
  refine yMet_of (by decide) (by decide) ?_
  intro G p e s m args below meth c a ls C0 hin hr P hl
  have hx := C0.1
  have hb := C0.2.1
  have P : yPs G _ s.heap [(a, .inr (7, [.null, .null, .null, .int 0, .null, .int 0, .int 0, .null, .null, .int 0, .int 0, .long 0, .null, .long 0]))] s.heap [] := P
  have hl : lv_has ls 2 [(0, .ref a)] := hl
  refine lv_aload_n hx hb d61_X8_init_0 rfl (lv_at hl 0 rfl) ?_
  refine yr_obj C0 (xPk_in [879, 87, 88] (by decide +kernel) (by decide +kernel)) hl.1 (Nat.le_of_ble_eq_true rfl) (Nat.le_of_ble_eq_true rfl) d61_X8_init_1 ?_
  refine lv_aload_n hx hb d61_X8_init_4 rfl (lv_at hl 0 rfl) ?_
  refine lv_bipush (v := 102) hx hb d61_X8_init_5 (by decide) ?_
  refine yr_newI C0 P 102 (by decide) (by decide) (Nat.le_of_ble_eq_true rfl) (xPk_in (ws := [.arrayClass .int]) [166] (by decide +kernel) (by decide +kernel) _ List.mem_cons_self) (Nat.le_of_ble_eq_true rfl) (Nat.le_of_ble_eq_true rfl) d61_X8_init_7 (fun q0 H P => ?_)
  have P : yPs G _ s.heap [(a, .inr (7, [.null, .null, .null, .int 0, .null, .int 0, .int 0, .null, .null, .int 0, .int 0, .long 0, .null, .long 0])), (q0, .inl (xcI G, 102, .inl (fun _ => 0)))] H _ := P
  refine yr_put C0 P 0 7 0 rfl (by decide) (by decide) (x_FX8 _ (by decide +kernel)) (Or.inr ⟨rfl, hin, rfl⟩) rfl rfl (Nat.le_of_ble_eq_true rfl) d61_X8_init_9 (fun H locs P => ?_)
  have P : yPs G _ s.heap [(a, .inr (7, [.ref q0, .null, .null, .int 0, .null, .int 0, .int 0, .null, .null, .int 0, .int 0, .long 0, .null, .long 0])), (q0, .inl (xcI G, 102, .inl (fun _ => 0)))] H _ := P
  refine lv_aload_n hx hb d61_X8_init_12 rfl (lv_at hl 0 rfl) ?_
  refine lv_sipush (v := 408) hx hb d61_X8_init_13 (by decide) ?_
  refine yr_newI C0 P 408 (by decide) (by decide) (Nat.le_of_ble_eq_true rfl) (xPk_in (ws := [.arrayClass .int]) [166] (by decide +kernel) (by decide +kernel) _ List.mem_cons_self) (Nat.le_of_ble_eq_true rfl) (Nat.le_of_ble_eq_true rfl) d61_X8_init_16 (fun q1 H P => ?_)
  have P : yPs G _ s.heap [(a, .inr (7, [.ref q0, .null, .null, .int 0, .null, .int 0, .int 0, .null, .null, .int 0, .int 0, .long 0, .null, .long 0])), (q0, .inl (xcI G, 102, .inl (fun _ => 0))), (q1, .inl (xcI G, 408, .inl (fun _ => 0)))] H _ := P
  refine yr_put C0 P 0 7 1 rfl (by decide) (by decide) (x_FX8 _ (by decide +kernel)) (Or.inr ⟨rfl, hin, rfl⟩) rfl rfl (Nat.le_of_ble_eq_true rfl) d61_X8_init_18 (fun H locs P => ?_)
  have P : yPs G _ s.heap [(a, .inr (7, [.ref q0, .ref q1, .null, .int 0, .null, .int 0, .int 0, .null, .null, .int 0, .int 0, .long 0, .null, .long 0])), (q0, .inl (xcI G, 102, .inl (fun _ => 0))), (q1, .inl (xcI G, 408, .inl (fun _ => 0)))] H _ := P
  refine lv_aload_n hx hb d61_X8_init_21 rfl (lv_at hl 0 rfl) ?_
  refine lv_bipush (v := 102) hx hb d61_X8_init_22 (by decide) ?_
  refine yr_newI C0 P 102 (by decide) (by decide) (Nat.le_of_ble_eq_true rfl) (xPk_in (ws := [.arrayClass .int]) [166] (by decide +kernel) (by decide +kernel) _ List.mem_cons_self) (Nat.le_of_ble_eq_true rfl) (Nat.le_of_ble_eq_true rfl) d61_X8_init_24 (fun q2 H P => ?_)
  have P : yPs G _ s.heap [(a, .inr (7, [.ref q0, .ref q1, .null, .int 0, .null, .int 0, .int 0, .null, .null, .int 0, .int 0, .long 0, .null, .long 0])), (q0, .inl (xcI G, 102, .inl (fun _ => 0))), (q1, .inl (xcI G, 408, .inl (fun _ => 0))), (q2, .inl (xcI G, 102, .inl (fun _ => 0)))] H _ := P
  refine yr_put C0 P 0 7 2 rfl (by decide) (by decide) (x_FX8 _ (by decide +kernel)) (Or.inr ⟨rfl, hin, rfl⟩) rfl rfl (Nat.le_of_ble_eq_true rfl) d61_X8_init_26 (fun H locs P => ?_)
  have P : yPs G _ s.heap [(a, .inr (7, [.ref q0, .ref q1, .ref q2, .int 0, .null, .int 0, .int 0, .null, .null, .int 0, .int 0, .long 0, .null, .long 0])), (q0, .inl (xcI G, 102, .inl (fun _ => 0))), (q1, .inl (xcI G, 408, .inl (fun _ => 0))), (q2, .inl (xcI G, 102, .inl (fun _ => 0)))] H _ := P
  refine lv_aload_n hx hb d61_X8_init_29 rfl (lv_at hl 0 rfl) ?_
  refine lv_sipush (v := 150) hx hb d61_X8_init_30 (by decide) ?_
  refine yr_newI C0 P 150 (by decide) (by decide) (Nat.le_of_ble_eq_true rfl) (xPk_in (ws := [.arrayClass .int]) [166] (by decide +kernel) (by decide +kernel) _ List.mem_cons_self) (Nat.le_of_ble_eq_true rfl) (Nat.le_of_ble_eq_true rfl) d61_X8_init_33 (fun q3 H P => ?_)
  have P : yPs G _ s.heap [(a, .inr (7, [.ref q0, .ref q1, .ref q2, .int 0, .null, .int 0, .int 0, .null, .null, .int 0, .int 0, .long 0, .null, .long 0])), (q0, .inl (xcI G, 102, .inl (fun _ => 0))), (q1, .inl (xcI G, 408, .inl (fun _ => 0))), (q2, .inl (xcI G, 102, .inl (fun _ => 0))), (q3, .inl (xcI G, 150, .inl (fun _ => 0)))] H _ := P
  refine yr_put C0 P 0 7 4 rfl (by decide) (by decide) (x_FX8 _ (by decide +kernel)) (Or.inr ⟨rfl, hin, rfl⟩) rfl rfl (Nat.le_of_ble_eq_true rfl) d61_X8_init_35 (fun H locs P => ?_)
  have P : yPs G _ s.heap [(a, .inr (7, [.ref q0, .ref q1, .ref q2, .int 0, .ref q3, .int 0, .int 0, .null, .null, .int 0, .int 0, .long 0, .null, .long 0])), (q0, .inl (xcI G, 102, .inl (fun _ => 0))), (q1, .inl (xcI G, 408, .inl (fun _ => 0))), (q2, .inl (xcI G, 102, .inl (fun _ => 0))), (q3, .inl (xcI G, 150, .inl (fun _ => 0)))] H _ := P
  refine lv_aload_n hx hb d61_X8_init_38 rfl (lv_at hl 0 rfl) ?_
  refine lv_iconst (v := 2) hx hb d61_X8_init_39 (by decide) ?_
  refine yr_newI C0 P 2 (by decide) (by decide) (Nat.le_of_ble_eq_true rfl) (xPk_in (ws := [.arrayClass .int]) [166] (by decide +kernel) (by decide +kernel) _ List.mem_cons_self) (Nat.le_of_ble_eq_true rfl) (Nat.le_of_ble_eq_true rfl) d61_X8_init_40 (fun q4 H P => ?_)
  have P : yPs G _ s.heap [(a, .inr (7, [.ref q0, .ref q1, .ref q2, .int 0, .ref q3, .int 0, .int 0, .null, .null, .int 0, .int 0, .long 0, .null, .long 0])), (q0, .inl (xcI G, 102, .inl (fun _ => 0))), (q1, .inl (xcI G, 408, .inl (fun _ => 0))), (q2, .inl (xcI G, 102, .inl (fun _ => 0))), (q3, .inl (xcI G, 150, .inl (fun _ => 0))), (q4, .inl (xcI G, 2, .inl (fun _ => 0)))] H _ := P
  refine yr_put C0 P 0 7 7 rfl (by decide) (by decide) (x_FX8 _ (by decide +kernel)) (Or.inr ⟨rfl, hin, rfl⟩) rfl rfl (Nat.le_of_ble_eq_true rfl) d61_X8_init_42 (fun H locs P => ?_)
  have P : yPs G _ s.heap [(a, .inr (7, [.ref q0, .ref q1, .ref q2, .int 0, .ref q3, .int 0, .int 0, .ref q4, .null, .int 0, .int 0, .long 0, .null, .long 0])), (q0, .inl (xcI G, 102, .inl (fun _ => 0))), (q1, .inl (xcI G, 408, .inl (fun _ => 0))), (q2, .inl (xcI G, 102, .inl (fun _ => 0))), (q3, .inl (xcI G, 150, .inl (fun _ => 0))), (q4, .inl (xcI G, 2, .inl (fun _ => 0)))] H _ := P
  refine lv_aload_n hx hb d61_X8_init_45 rfl (lv_at hl 0 rfl) ?_
  refine lv_iconst (v := 2) hx hb d61_X8_init_46 (by decide) ?_
  refine yr_newI C0 P 2 (by decide) (by decide) (Nat.le_of_ble_eq_true rfl) (xPk_in (ws := [.arrayClass .int]) [166] (by decide +kernel) (by decide +kernel) _ List.mem_cons_self) (Nat.le_of_ble_eq_true rfl) (Nat.le_of_ble_eq_true rfl) d61_X8_init_47 (fun q5 H P => ?_)
  have P : yPs G _ s.heap [(a, .inr (7, [.ref q0, .ref q1, .ref q2, .int 0, .ref q3, .int 0, .int 0, .ref q4, .null, .int 0, .int 0, .long 0, .null, .long 0])), (q0, .inl (xcI G, 102, .inl (fun _ => 0))), (q1, .inl (xcI G, 408, .inl (fun _ => 0))), (q2, .inl (xcI G, 102, .inl (fun _ => 0))), (q3, .inl (xcI G, 150, .inl (fun _ => 0))), (q4, .inl (xcI G, 2, .inl (fun _ => 0))), (q5, .inl (xcI G, 2, .inl (fun _ => 0)))] H _ := P
  refine yr_put C0 P 0 7 8 rfl (by decide) (by decide) (x_FX8 _ (by decide +kernel)) (Or.inr ⟨rfl, hin, rfl⟩) rfl rfl (Nat.le_of_ble_eq_true rfl) d61_X8_init_49 (fun H locs P => ?_)
  have P : yPs G _ s.heap [(a, .inr (7, [.ref q0, .ref q1, .ref q2, .int 0, .ref q3, .int 0, .int 0, .ref q4, .ref q5, .int 0, .int 0, .long 0, .null, .long 0])), (q0, .inl (xcI G, 102, .inl (fun _ => 0))), (q1, .inl (xcI G, 408, .inl (fun _ => 0))), (q2, .inl (xcI G, 102, .inl (fun _ => 0))), (q3, .inl (xcI G, 150, .inl (fun _ => 0))), (q4, .inl (xcI G, 2, .inl (fun _ => 0))), (q5, .inl (xcI G, 2, .inl (fun _ => 0)))] H _ := P
  refine lv_aload_n hx hb d61_X8_init_52 rfl (lv_at hl 0 rfl) ?_
  refine lv_iconst (v := 3) hx hb d61_X8_init_53 (by decide) ?_
  refine yr_newI C0 P 3 (by decide) (by decide) (Nat.le_of_ble_eq_true rfl) (xPk_in (ws := [.arrayClass .int]) [166] (by decide +kernel) (by decide +kernel) _ List.mem_cons_self) (Nat.le_of_ble_eq_true rfl) (Nat.le_of_ble_eq_true rfl) d61_X8_init_54 (fun q6 H P => ?_)
  have P : yPs G _ s.heap [(a, .inr (7, [.ref q0, .ref q1, .ref q2, .int 0, .ref q3, .int 0, .int 0, .ref q4, .ref q5, .int 0, .int 0, .long 0, .null, .long 0])), (q0, .inl (xcI G, 102, .inl (fun _ => 0))), (q1, .inl (xcI G, 408, .inl (fun _ => 0))), (q2, .inl (xcI G, 102, .inl (fun _ => 0))), (q3, .inl (xcI G, 150, .inl (fun _ => 0))), (q4, .inl (xcI G, 2, .inl (fun _ => 0))), (q5, .inl (xcI G, 2, .inl (fun _ => 0))), (q6, .inl (xcI G, 3, .inl (fun _ => 0)))] H _ := P
  refine yr_put C0 P 0 7 12 rfl (by decide) (by decide) (x_FX8 _ (by decide +kernel)) (Or.inr ⟨rfl, hin, rfl⟩) rfl rfl (Nat.le_of_ble_eq_true rfl) d61_X8_init_56 (fun H locs P => ?_)
  have P : yPs G _ s.heap [(a, .inr (7, [.ref q0, .ref q1, .ref q2, .int 0, .ref q3, .int 0, .int 0, .ref q4, .ref q5, .int 0, .int 0, .long 0, .ref q6, .long 0])), (q0, .inl (xcI G, 102, .inl (fun _ => 0))), (q1, .inl (xcI G, 408, .inl (fun _ => 0))), (q2, .inl (xcI G, 102, .inl (fun _ => 0))), (q3, .inl (xcI G, 150, .inl (fun _ => 0))), (q4, .inl (xcI G, 2, .inl (fun _ => 0))), (q5, .inl (xcI G, 2, .inl (fun _ => 0))), (q6, .inl (xcI G, 3, .inl (fun _ => 0)))] H _ := P
  refine lv_aload_n hx hb d61_X8_init_59 rfl (lv_at hl 0 rfl) ?_
  refine yr_get C0 P 0 7 0 rfl (by decide) (by decide) (x_FX8 _ (by decide +kernel)) rfl d61_X8_init_60 ?_
  refine lv_iconst (v := 2) hx hb d61_X8_init_63 (by decide) ?_
  refine lv_bipush (v := 100) hx hb d61_X8_init_64 (by decide) ?_
  refine yr_iast C0 P 1 rfl (by unfold vp_in; decide) d61_X8_init_66 (fun H locs P => ?_)
  have P : yPs G _ s.heap [(a, .inr (7, [.ref q0, .ref q1, .ref q2, .int 0, .ref q3, .int 0, .int 0, .ref q4, .ref q5, .int 0, .int 0, .long 0, .ref q6, .long 0])), (q0, .inl (xcI G, 102, .inl (upd (fun _ => 0) (Int32.toNatClampNeg 2) 100))), (q1, .inl (xcI G, 408, .inl (fun _ => 0))), (q2, .inl (xcI G, 102, .inl (fun _ => 0))), (q3, .inl (xcI G, 150, .inl (fun _ => 0))), (q4, .inl (xcI G, 2, .inl (fun _ => 0))), (q5, .inl (xcI G, 2, .inl (fun _ => 0))), (q6, .inl (xcI G, 3, .inl (fun _ => 0)))] H _ := P
  refine lv_aload_n hx hb d61_X8_init_67 rfl (lv_at hl 0 rfl) ?_
  refine yr_get C0 P 0 7 0 rfl (by decide) (by decide) (x_FX8 _ (by decide +kernel)) rfl d61_X8_init_68 ?_
  refine lv_iconst (v := 4) hx hb d61_X8_init_71 (by decide) ?_
  refine lv_sipush (v := 1000) hx hb d61_X8_init_72 (by decide) ?_
  refine yr_iast C0 P 1 rfl (by unfold vp_in; decide) d61_X8_init_75 (fun H locs P => ?_)
  have P : yPs G _ s.heap [(a, .inr (7, [.ref q0, .ref q1, .ref q2, .int 0, .ref q3, .int 0, .int 0, .ref q4, .ref q5, .int 0, .int 0, .long 0, .ref q6, .long 0])), (q0, .inl (xcI G, 102, .inl (upd (upd (fun _ => 0) (Int32.toNatClampNeg 2) 100) (Int32.toNatClampNeg 4) 1000))), (q1, .inl (xcI G, 408, .inl (fun _ => 0))), (q2, .inl (xcI G, 102, .inl (fun _ => 0))), (q3, .inl (xcI G, 150, .inl (fun _ => 0))), (q4, .inl (xcI G, 2, .inl (fun _ => 0))), (q5, .inl (xcI G, 2, .inl (fun _ => 0))), (q6, .inl (xcI G, 3, .inl (fun _ => 0)))] H _ := P
  refine lv_iconst (v := 0) hx hb d61_X8_init_76 (by decide) ?_
  refine lv_istore_n (lv' := [(1, .int 0), (0, .ref a)]) hx hb d61_X8_init_77 rfl hl (by decide) rfl (fun ls hl => ?_)
  refine lv_iload_n hx hb d61_X8_init_78 rfl (lv_at hl 0 rfl) ?_
  refine lv_iconst (v := 2) hx hb d61_X8_init_79 (by decide) ?_
  refine lv_icmp_ge (tgt := 149) hx hb d61_X8_init_80 (by decide) (fun h => absurd h (by decide)) (fun _ => ?_)
  refine lv_aload_n hx hb d61_X8_init_83 rfl (lv_at hl 1 rfl) ?_
  refine lv_iload_n hx hb d61_X8_init_84 rfl (lv_at hl 0 rfl) ?_
  refine lv_iconst (v := 0) hx hb d61_X8_init_85 (by decide) ?_
  refine lv_sipush (v := 1000) hx hb d61_X8_init_86 (by decide) ?_
  refine yr_puts C0 P (index := 31) (wr := [(q1, .inl (xcI G, 408, .inl (fun _ => 0))), (q2, .inl (xcI G, 102, .inl (fun _ => 0))), (q3, .inl (xcI G, 150, .inl (fun _ => 0))), (q4, .inl (xcI G, 2, .inl (fun _ => 0))), (q5, .inl (xcI G, 2, .inl (fun _ => 0))), (q6, .inl (xcI G, 3, .inl (fun _ => 0)))]) 0 1 [2, 3, 4, 5, 6, 7] rfl rfl rfl (by decide) rfl (xPk_in [880, 882, 15, 65, 883] (by decide +kernel) (by decide +kernel)) (by unfold vp_in; decide) (Nat.le_of_ble_eq_true rfl) (Nat.le_of_ble_eq_true rfl) hl.1 d61_X8_init_89 (fun H locs P => ?_) ⟨(Nat.le_of_ble_eq_true rfl), (Nat.le_of_ble_eq_true rfl)⟩
  have P : yPs G _ s.heap [(q1, .inl (xcI G, 408, .inl (fun _ => 0))), (q2, .inl (xcI G, 102, .inl (fun _ => 0))), (q3, .inl (xcI G, 150, .inl (fun _ => 0))), (q4, .inl (xcI G, 2, .inl (fun _ => 0))), (q5, .inl (xcI G, 2, .inl (fun _ => 0))), (q6, .inl (xcI G, 3, .inl (fun _ => 0))), (a, .inr (7, [.ref q0, .ref q1, .ref q2, .int 0, .ref q3, .int 0, .int 0, .ref q4, .ref q5, .int 0, .int 0, .long 0, .ref q6, .long 0])), (q0, .inl (xcI G, 102, .inl (upd (upd (upd (fun _ => 0) (Int32.toNatClampNeg 2) 100) (Int32.toNatClampNeg 4) 1000) (Int32.toNatClampNeg (10 + 16 * 0 + 0)) 1000)))] H _ := P
  refine lv_aload_n hx hb d61_X8_init_92 rfl (lv_at hl 1 rfl) ?_
  refine lv_iload_n hx hb d61_X8_init_93 rfl (lv_at hl 0 rfl) ?_
  refine lv_iconst (v := 1) hx hb d61_X8_init_94 (by decide) ?_
  refine lv_bipush (v := 10) hx hb d61_X8_init_95 (by decide) ?_
  refine yr_puts C0 P (index := 31) (wr := [(q1, .inl (xcI G, 408, .inl (fun _ => 0))), (q2, .inl (xcI G, 102, .inl (fun _ => 0))), (q3, .inl (xcI G, 150, .inl (fun _ => 0))), (q4, .inl (xcI G, 2, .inl (fun _ => 0))), (q5, .inl (xcI G, 2, .inl (fun _ => 0))), (q6, .inl (xcI G, 3, .inl (fun _ => 0)))]) 6 7 [0, 1, 2, 3, 4, 5] rfl rfl rfl (by decide) rfl (xPk_in [880, 882, 15, 65, 883] (by decide +kernel) (by decide +kernel)) (by unfold vp_in; decide) (Nat.le_of_ble_eq_true rfl) (Nat.le_of_ble_eq_true rfl) hl.1 d61_X8_init_97 (fun H locs P => ?_) ⟨(Nat.le_of_ble_eq_true rfl), (Nat.le_of_ble_eq_true rfl)⟩
  have P : yPs G _ s.heap [(q1, .inl (xcI G, 408, .inl (fun _ => 0))), (q2, .inl (xcI G, 102, .inl (fun _ => 0))), (q3, .inl (xcI G, 150, .inl (fun _ => 0))), (q4, .inl (xcI G, 2, .inl (fun _ => 0))), (q5, .inl (xcI G, 2, .inl (fun _ => 0))), (q6, .inl (xcI G, 3, .inl (fun _ => 0))), (a, .inr (7, [.ref q0, .ref q1, .ref q2, .int 0, .ref q3, .int 0, .int 0, .ref q4, .ref q5, .int 0, .int 0, .long 0, .ref q6, .long 0])), (q0, .inl (xcI G, 102, .inl (upd (upd (upd (upd (fun _ => 0) (Int32.toNatClampNeg 2) 100) (Int32.toNatClampNeg 4) 1000) (Int32.toNatClampNeg (10 + 16 * 0 + 0)) 1000) (Int32.toNatClampNeg (10 + 16 * 0 + 1)) 10)))] H _ := P
  refine lv_aload_n hx hb d61_X8_init_100 rfl (lv_at hl 1 rfl) ?_
  refine lv_iload_n hx hb d61_X8_init_101 rfl (lv_at hl 0 rfl) ?_
  refine lv_iconst (v := 2) hx hb d61_X8_init_102 (by decide) ?_
  refine lv_bipush (v := 20) hx hb d61_X8_init_103 (by decide) ?_
  refine yr_puts C0 P (index := 31) (wr := [(q1, .inl (xcI G, 408, .inl (fun _ => 0))), (q2, .inl (xcI G, 102, .inl (fun _ => 0))), (q3, .inl (xcI G, 150, .inl (fun _ => 0))), (q4, .inl (xcI G, 2, .inl (fun _ => 0))), (q5, .inl (xcI G, 2, .inl (fun _ => 0))), (q6, .inl (xcI G, 3, .inl (fun _ => 0)))]) 6 7 [0, 1, 2, 3, 4, 5] rfl rfl rfl (by decide) rfl (xPk_in [880, 882, 15, 65, 883] (by decide +kernel) (by decide +kernel)) (by unfold vp_in; decide) (Nat.le_of_ble_eq_true rfl) (Nat.le_of_ble_eq_true rfl) hl.1 d61_X8_init_105 (fun H locs P => ?_) ⟨(Nat.le_of_ble_eq_true rfl), (Nat.le_of_ble_eq_true rfl)⟩
  have P : yPs G _ s.heap [(q1, .inl (xcI G, 408, .inl (fun _ => 0))), (q2, .inl (xcI G, 102, .inl (fun _ => 0))), (q3, .inl (xcI G, 150, .inl (fun _ => 0))), (q4, .inl (xcI G, 2, .inl (fun _ => 0))), (q5, .inl (xcI G, 2, .inl (fun _ => 0))), (q6, .inl (xcI G, 3, .inl (fun _ => 0))), (a, .inr (7, [.ref q0, .ref q1, .ref q2, .int 0, .ref q3, .int 0, .int 0, .ref q4, .ref q5, .int 0, .int 0, .long 0, .ref q6, .long 0])), (q0, .inl (xcI G, 102, .inl (upd (upd (upd (upd (upd (fun _ => 0) (Int32.toNatClampNeg 2) 100) (Int32.toNatClampNeg 4) 1000) (Int32.toNatClampNeg (10 + 16 * 0 + 0)) 1000) (Int32.toNatClampNeg (10 + 16 * 0 + 1)) 10) (Int32.toNatClampNeg (10 + 16 * 0 + 2)) 20)))] H _ := P
  refine lv_aload_n hx hb d61_X8_init_108 rfl (lv_at hl 1 rfl) ?_
  refine lv_iload_n hx hb d61_X8_init_109 rfl (lv_at hl 0 rfl) ?_
  refine lv_iconst (v := 3) hx hb d61_X8_init_110 (by decide) ?_
  refine lv_bipush (v := 100) hx hb d61_X8_init_111 (by decide) ?_
  refine yr_puts C0 P (index := 31) (wr := [(q1, .inl (xcI G, 408, .inl (fun _ => 0))), (q2, .inl (xcI G, 102, .inl (fun _ => 0))), (q3, .inl (xcI G, 150, .inl (fun _ => 0))), (q4, .inl (xcI G, 2, .inl (fun _ => 0))), (q5, .inl (xcI G, 2, .inl (fun _ => 0))), (q6, .inl (xcI G, 3, .inl (fun _ => 0)))]) 6 7 [0, 1, 2, 3, 4, 5] rfl rfl rfl (by decide) rfl (xPk_in [880, 882, 15, 65, 883] (by decide +kernel) (by decide +kernel)) (by unfold vp_in; decide) (Nat.le_of_ble_eq_true rfl) (Nat.le_of_ble_eq_true rfl) hl.1 d61_X8_init_113 (fun H locs P => ?_) ⟨(Nat.le_of_ble_eq_true rfl), (Nat.le_of_ble_eq_true rfl)⟩
  have P : yPs G _ s.heap [(q1, .inl (xcI G, 408, .inl (fun _ => 0))), (q2, .inl (xcI G, 102, .inl (fun _ => 0))), (q3, .inl (xcI G, 150, .inl (fun _ => 0))), (q4, .inl (xcI G, 2, .inl (fun _ => 0))), (q5, .inl (xcI G, 2, .inl (fun _ => 0))), (q6, .inl (xcI G, 3, .inl (fun _ => 0))), (a, .inr (7, [.ref q0, .ref q1, .ref q2, .int 0, .ref q3, .int 0, .int 0, .ref q4, .ref q5, .int 0, .int 0, .long 0, .ref q6, .long 0])), (q0, .inl (xcI G, 102, .inl (upd (upd (upd (upd (upd (upd (fun _ => 0) (Int32.toNatClampNeg 2) 100) (Int32.toNatClampNeg 4) 1000) (Int32.toNatClampNeg (10 + 16 * 0 + 0)) 1000) (Int32.toNatClampNeg (10 + 16 * 0 + 1)) 10) (Int32.toNatClampNeg (10 + 16 * 0 + 2)) 20) (Int32.toNatClampNeg (10 + 16 * 0 + 3)) 100)))] H _ := P
  refine lv_aload_n hx hb d61_X8_init_116 rfl (lv_at hl 1 rfl) ?_
  refine lv_iload_n hx hb d61_X8_init_117 rfl (lv_at hl 0 rfl) ?_
  refine lv_iconst (v := 5) hx hb d61_X8_init_118 (by decide) ?_
  refine lv_sipush (v := 500) hx hb d61_X8_init_119 (by decide) ?_
  refine lv_iload_n hx hb d61_X8_init_122 rfl (lv_at hl 0 rfl) ?_
  refine lv_imul hx hb d61_X8_init_123 ?_
  refine yr_puts C0 P (index := 31) (wr := [(q1, .inl (xcI G, 408, .inl (fun _ => 0))), (q2, .inl (xcI G, 102, .inl (fun _ => 0))), (q3, .inl (xcI G, 150, .inl (fun _ => 0))), (q4, .inl (xcI G, 2, .inl (fun _ => 0))), (q5, .inl (xcI G, 2, .inl (fun _ => 0))), (q6, .inl (xcI G, 3, .inl (fun _ => 0)))]) 6 7 [0, 1, 2, 3, 4, 5] rfl rfl rfl (by decide) rfl (xPk_in [880, 882, 15, 65, 883] (by decide +kernel) (by decide +kernel)) (by unfold vp_in; decide) (Nat.le_of_ble_eq_true rfl) (Nat.le_of_ble_eq_true rfl) hl.1 d61_X8_init_124 (fun H locs P => ?_) ⟨(Nat.le_of_ble_eq_true rfl), (Nat.le_of_ble_eq_true rfl)⟩
  have P : yPs G _ s.heap [(q1, .inl (xcI G, 408, .inl (fun _ => 0))), (q2, .inl (xcI G, 102, .inl (fun _ => 0))), (q3, .inl (xcI G, 150, .inl (fun _ => 0))), (q4, .inl (xcI G, 2, .inl (fun _ => 0))), (q5, .inl (xcI G, 2, .inl (fun _ => 0))), (q6, .inl (xcI G, 3, .inl (fun _ => 0))), (a, .inr (7, [.ref q0, .ref q1, .ref q2, .int 0, .ref q3, .int 0, .int 0, .ref q4, .ref q5, .int 0, .int 0, .long 0, .ref q6, .long 0])), (q0, .inl (xcI G, 102, .inl (upd (upd (upd (upd (upd (upd (upd (fun _ => 0) (Int32.toNatClampNeg 2) 100) (Int32.toNatClampNeg 4) 1000) (Int32.toNatClampNeg (10 + 16 * 0 + 0)) 1000) (Int32.toNatClampNeg (10 + 16 * 0 + 1)) 10) (Int32.toNatClampNeg (10 + 16 * 0 + 2)) 20) (Int32.toNatClampNeg (10 + 16 * 0 + 3)) 100) (Int32.toNatClampNeg (10 + 16 * 0 + 5)) (500 * 0))))] H _ := P
  refine lv_aload_n hx hb d61_X8_init_127 rfl (lv_at hl 1 rfl) ?_
  refine lv_iload_n hx hb d61_X8_init_128 rfl (lv_at hl 0 rfl) ?_
  refine lv_bipush (v := 6) hx hb d61_X8_init_129 (by decide) ?_
  refine lv_sipush (v := 500) hx hb d61_X8_init_131 (by decide) ?_
  refine lv_iload_n hx hb d61_X8_init_134 rfl (lv_at hl 0 rfl) ?_
  refine lv_imul hx hb d61_X8_init_135 ?_
  refine lv_sipush (v := 500) hx hb d61_X8_init_136 (by decide) ?_
  refine lv_iadd hx hb d61_X8_init_139 ?_
  refine yr_puts C0 P (index := 31) (wr := [(q1, .inl (xcI G, 408, .inl (fun _ => 0))), (q2, .inl (xcI G, 102, .inl (fun _ => 0))), (q3, .inl (xcI G, 150, .inl (fun _ => 0))), (q4, .inl (xcI G, 2, .inl (fun _ => 0))), (q5, .inl (xcI G, 2, .inl (fun _ => 0))), (q6, .inl (xcI G, 3, .inl (fun _ => 0)))]) 6 7 [0, 1, 2, 3, 4, 5] rfl rfl rfl (by decide) rfl (xPk_in [880, 882, 15, 65, 883] (by decide +kernel) (by decide +kernel)) (by unfold vp_in; decide) (Nat.le_of_ble_eq_true rfl) (Nat.le_of_ble_eq_true rfl) hl.1 d61_X8_init_140 (fun H locs P => ?_) ⟨(Nat.le_of_ble_eq_true rfl), (Nat.le_of_ble_eq_true rfl)⟩
  have P : yPs G _ s.heap [(q1, .inl (xcI G, 408, .inl (fun _ => 0))), (q2, .inl (xcI G, 102, .inl (fun _ => 0))), (q3, .inl (xcI G, 150, .inl (fun _ => 0))), (q4, .inl (xcI G, 2, .inl (fun _ => 0))), (q5, .inl (xcI G, 2, .inl (fun _ => 0))), (q6, .inl (xcI G, 3, .inl (fun _ => 0))), (a, .inr (7, [.ref q0, .ref q1, .ref q2, .int 0, .ref q3, .int 0, .int 0, .ref q4, .ref q5, .int 0, .int 0, .long 0, .ref q6, .long 0])), (q0, .inl (xcI G, 102, .inl (upd (upd (upd (upd (upd (upd (upd (upd (fun _ => 0) (Int32.toNatClampNeg 2) 100) (Int32.toNatClampNeg 4) 1000) (Int32.toNatClampNeg (10 + 16 * 0 + 0)) 1000) (Int32.toNatClampNeg (10 + 16 * 0 + 1)) 10) (Int32.toNatClampNeg (10 + 16 * 0 + 2)) 20) (Int32.toNatClampNeg (10 + 16 * 0 + 3)) 100) (Int32.toNatClampNeg (10 + 16 * 0 + 5)) (500 * 0)) (Int32.toNatClampNeg (10 + 16 * 0 + 6)) ((500 * 0) + 500))))] H _ := P
  refine lv_iinc (lv' := [(1, .int 1), (0, .ref a)]) (k := 0) (v := 1) hx hb d61_X8_init_143 hl rfl (by decide) (by decide) rfl (fun ls hl => ?_)
  refine lv_goto (tgt := 78) hx hb d61_X8_init_146 (by decide) ?_
  refine lv_iload_n hx hb d61_X8_init_78 rfl (lv_at hl 0 rfl) ?_
  refine lv_iconst (v := 2) hx hb d61_X8_init_79 (by decide) ?_
  refine lv_icmp_ge (tgt := 149) hx hb d61_X8_init_80 (by decide) (fun h => absurd h (by decide)) (fun _ => ?_)
  refine lv_aload_n hx hb d61_X8_init_83 rfl (lv_at hl 1 rfl) ?_
  refine lv_iload_n hx hb d61_X8_init_84 rfl (lv_at hl 0 rfl) ?_
  refine lv_iconst (v := 0) hx hb d61_X8_init_85 (by decide) ?_
  refine lv_sipush (v := 1000) hx hb d61_X8_init_86 (by decide) ?_
  refine yr_puts C0 P (index := 31) (wr := [(q1, .inl (xcI G, 408, .inl (fun _ => 0))), (q2, .inl (xcI G, 102, .inl (fun _ => 0))), (q3, .inl (xcI G, 150, .inl (fun _ => 0))), (q4, .inl (xcI G, 2, .inl (fun _ => 0))), (q5, .inl (xcI G, 2, .inl (fun _ => 0))), (q6, .inl (xcI G, 3, .inl (fun _ => 0)))]) 6 7 [0, 1, 2, 3, 4, 5] rfl rfl rfl (by decide) rfl (xPk_in [880, 882, 15, 65, 883] (by decide +kernel) (by decide +kernel)) (by unfold vp_in; decide) (Nat.le_of_ble_eq_true rfl) (Nat.le_of_ble_eq_true rfl) hl.1 d61_X8_init_89 (fun H locs P => ?_) ⟨(Nat.le_of_ble_eq_true rfl), (Nat.le_of_ble_eq_true rfl)⟩
  have P : yPs G _ s.heap [(q1, .inl (xcI G, 408, .inl (fun _ => 0))), (q2, .inl (xcI G, 102, .inl (fun _ => 0))), (q3, .inl (xcI G, 150, .inl (fun _ => 0))), (q4, .inl (xcI G, 2, .inl (fun _ => 0))), (q5, .inl (xcI G, 2, .inl (fun _ => 0))), (q6, .inl (xcI G, 3, .inl (fun _ => 0))), (a, .inr (7, [.ref q0, .ref q1, .ref q2, .int 0, .ref q3, .int 0, .int 0, .ref q4, .ref q5, .int 0, .int 0, .long 0, .ref q6, .long 0])), (q0, .inl (xcI G, 102, .inl (upd (upd (upd (upd (upd (upd (upd (upd (upd (fun _ => 0) (Int32.toNatClampNeg 2) 100) (Int32.toNatClampNeg 4) 1000) (Int32.toNatClampNeg (10 + 16 * 0 + 0)) 1000) (Int32.toNatClampNeg (10 + 16 * 0 + 1)) 10) (Int32.toNatClampNeg (10 + 16 * 0 + 2)) 20) (Int32.toNatClampNeg (10 + 16 * 0 + 3)) 100) (Int32.toNatClampNeg (10 + 16 * 0 + 5)) (500 * 0)) (Int32.toNatClampNeg (10 + 16 * 0 + 6)) ((500 * 0) + 500)) (Int32.toNatClampNeg (10 + 16 * 1 + 0)) 1000)))] H _ := P
  refine lv_aload_n hx hb d61_X8_init_92 rfl (lv_at hl 1 rfl) ?_
  refine lv_iload_n hx hb d61_X8_init_93 rfl (lv_at hl 0 rfl) ?_
  refine lv_iconst (v := 1) hx hb d61_X8_init_94 (by decide) ?_
  refine lv_bipush (v := 10) hx hb d61_X8_init_95 (by decide) ?_
  refine yr_puts C0 P (index := 31) (wr := [(q1, .inl (xcI G, 408, .inl (fun _ => 0))), (q2, .inl (xcI G, 102, .inl (fun _ => 0))), (q3, .inl (xcI G, 150, .inl (fun _ => 0))), (q4, .inl (xcI G, 2, .inl (fun _ => 0))), (q5, .inl (xcI G, 2, .inl (fun _ => 0))), (q6, .inl (xcI G, 3, .inl (fun _ => 0)))]) 6 7 [0, 1, 2, 3, 4, 5] rfl rfl rfl (by decide) rfl (xPk_in [880, 882, 15, 65, 883] (by decide +kernel) (by decide +kernel)) (by unfold vp_in; decide) (Nat.le_of_ble_eq_true rfl) (Nat.le_of_ble_eq_true rfl) hl.1 d61_X8_init_97 (fun H locs P => ?_) ⟨(Nat.le_of_ble_eq_true rfl), (Nat.le_of_ble_eq_true rfl)⟩
  have P : yPs G _ s.heap [(q1, .inl (xcI G, 408, .inl (fun _ => 0))), (q2, .inl (xcI G, 102, .inl (fun _ => 0))), (q3, .inl (xcI G, 150, .inl (fun _ => 0))), (q4, .inl (xcI G, 2, .inl (fun _ => 0))), (q5, .inl (xcI G, 2, .inl (fun _ => 0))), (q6, .inl (xcI G, 3, .inl (fun _ => 0))), (a, .inr (7, [.ref q0, .ref q1, .ref q2, .int 0, .ref q3, .int 0, .int 0, .ref q4, .ref q5, .int 0, .int 0, .long 0, .ref q6, .long 0])), (q0, .inl (xcI G, 102, .inl (upd (upd (upd (upd (upd (upd (upd (upd (upd (upd (fun _ => 0) (Int32.toNatClampNeg 2) 100) (Int32.toNatClampNeg 4) 1000) (Int32.toNatClampNeg (10 + 16 * 0 + 0)) 1000) (Int32.toNatClampNeg (10 + 16 * 0 + 1)) 10) (Int32.toNatClampNeg (10 + 16 * 0 + 2)) 20) (Int32.toNatClampNeg (10 + 16 * 0 + 3)) 100) (Int32.toNatClampNeg (10 + 16 * 0 + 5)) (500 * 0)) (Int32.toNatClampNeg (10 + 16 * 0 + 6)) ((500 * 0) + 500)) (Int32.toNatClampNeg (10 + 16 * 1 + 0)) 1000) (Int32.toNatClampNeg (10 + 16 * 1 + 1)) 10)))] H _ := P
  refine lv_aload_n hx hb d61_X8_init_100 rfl (lv_at hl 1 rfl) ?_
  refine lv_iload_n hx hb d61_X8_init_101 rfl (lv_at hl 0 rfl) ?_
  refine lv_iconst (v := 2) hx hb d61_X8_init_102 (by decide) ?_
  refine lv_bipush (v := 20) hx hb d61_X8_init_103 (by decide) ?_
  refine yr_puts C0 P (index := 31) (wr := [(q1, .inl (xcI G, 408, .inl (fun _ => 0))), (q2, .inl (xcI G, 102, .inl (fun _ => 0))), (q3, .inl (xcI G, 150, .inl (fun _ => 0))), (q4, .inl (xcI G, 2, .inl (fun _ => 0))), (q5, .inl (xcI G, 2, .inl (fun _ => 0))), (q6, .inl (xcI G, 3, .inl (fun _ => 0)))]) 6 7 [0, 1, 2, 3, 4, 5] rfl rfl rfl (by decide) rfl (xPk_in [880, 882, 15, 65, 883] (by decide +kernel) (by decide +kernel)) (by unfold vp_in; decide) (Nat.le_of_ble_eq_true rfl) (Nat.le_of_ble_eq_true rfl) hl.1 d61_X8_init_105 (fun H locs P => ?_) ⟨(Nat.le_of_ble_eq_true rfl), (Nat.le_of_ble_eq_true rfl)⟩
  have P : yPs G _ s.heap [(q1, .inl (xcI G, 408, .inl (fun _ => 0))), (q2, .inl (xcI G, 102, .inl (fun _ => 0))), (q3, .inl (xcI G, 150, .inl (fun _ => 0))), (q4, .inl (xcI G, 2, .inl (fun _ => 0))), (q5, .inl (xcI G, 2, .inl (fun _ => 0))), (q6, .inl (xcI G, 3, .inl (fun _ => 0))), (a, .inr (7, [.ref q0, .ref q1, .ref q2, .int 0, .ref q3, .int 0, .int 0, .ref q4, .ref q5, .int 0, .int 0, .long 0, .ref q6, .long 0])), (q0, .inl (xcI G, 102, .inl (upd (upd (upd (upd (upd (upd (upd (upd (upd (upd (upd (fun _ => 0) (Int32.toNatClampNeg 2) 100) (Int32.toNatClampNeg 4) 1000) (Int32.toNatClampNeg (10 + 16 * 0 + 0)) 1000) (Int32.toNatClampNeg (10 + 16 * 0 + 1)) 10) (Int32.toNatClampNeg (10 + 16 * 0 + 2)) 20) (Int32.toNatClampNeg (10 + 16 * 0 + 3)) 100) (Int32.toNatClampNeg (10 + 16 * 0 + 5)) (500 * 0)) (Int32.toNatClampNeg (10 + 16 * 0 + 6)) ((500 * 0) + 500)) (Int32.toNatClampNeg (10 + 16 * 1 + 0)) 1000) (Int32.toNatClampNeg (10 + 16 * 1 + 1)) 10) (Int32.toNatClampNeg (10 + 16 * 1 + 2)) 20)))] H _ := P
  refine lv_aload_n hx hb d61_X8_init_108 rfl (lv_at hl 1 rfl) ?_
  refine lv_iload_n hx hb d61_X8_init_109 rfl (lv_at hl 0 rfl) ?_
  refine lv_iconst (v := 3) hx hb d61_X8_init_110 (by decide) ?_
  refine lv_bipush (v := 100) hx hb d61_X8_init_111 (by decide) ?_
  refine yr_puts C0 P (index := 31) (wr := [(q1, .inl (xcI G, 408, .inl (fun _ => 0))), (q2, .inl (xcI G, 102, .inl (fun _ => 0))), (q3, .inl (xcI G, 150, .inl (fun _ => 0))), (q4, .inl (xcI G, 2, .inl (fun _ => 0))), (q5, .inl (xcI G, 2, .inl (fun _ => 0))), (q6, .inl (xcI G, 3, .inl (fun _ => 0)))]) 6 7 [0, 1, 2, 3, 4, 5] rfl rfl rfl (by decide) rfl (xPk_in [880, 882, 15, 65, 883] (by decide +kernel) (by decide +kernel)) (by unfold vp_in; decide) (Nat.le_of_ble_eq_true rfl) (Nat.le_of_ble_eq_true rfl) hl.1 d61_X8_init_113 (fun H locs P => ?_) ⟨(Nat.le_of_ble_eq_true rfl), (Nat.le_of_ble_eq_true rfl)⟩
  have P : yPs G _ s.heap [(q1, .inl (xcI G, 408, .inl (fun _ => 0))), (q2, .inl (xcI G, 102, .inl (fun _ => 0))), (q3, .inl (xcI G, 150, .inl (fun _ => 0))), (q4, .inl (xcI G, 2, .inl (fun _ => 0))), (q5, .inl (xcI G, 2, .inl (fun _ => 0))), (q6, .inl (xcI G, 3, .inl (fun _ => 0))), (a, .inr (7, [.ref q0, .ref q1, .ref q2, .int 0, .ref q3, .int 0, .int 0, .ref q4, .ref q5, .int 0, .int 0, .long 0, .ref q6, .long 0])), (q0, .inl (xcI G, 102, .inl (upd (upd (upd (upd (upd (upd (upd (upd (upd (upd (upd (upd (fun _ => 0) (Int32.toNatClampNeg 2) 100) (Int32.toNatClampNeg 4) 1000) (Int32.toNatClampNeg (10 + 16 * 0 + 0)) 1000) (Int32.toNatClampNeg (10 + 16 * 0 + 1)) 10) (Int32.toNatClampNeg (10 + 16 * 0 + 2)) 20) (Int32.toNatClampNeg (10 + 16 * 0 + 3)) 100) (Int32.toNatClampNeg (10 + 16 * 0 + 5)) (500 * 0)) (Int32.toNatClampNeg (10 + 16 * 0 + 6)) ((500 * 0) + 500)) (Int32.toNatClampNeg (10 + 16 * 1 + 0)) 1000) (Int32.toNatClampNeg (10 + 16 * 1 + 1)) 10) (Int32.toNatClampNeg (10 + 16 * 1 + 2)) 20) (Int32.toNatClampNeg (10 + 16 * 1 + 3)) 100)))] H _ := P
  refine lv_aload_n hx hb d61_X8_init_116 rfl (lv_at hl 1 rfl) ?_
  refine lv_iload_n hx hb d61_X8_init_117 rfl (lv_at hl 0 rfl) ?_
  refine lv_iconst (v := 5) hx hb d61_X8_init_118 (by decide) ?_
  refine lv_sipush (v := 500) hx hb d61_X8_init_119 (by decide) ?_
  refine lv_iload_n hx hb d61_X8_init_122 rfl (lv_at hl 0 rfl) ?_
  refine lv_imul hx hb d61_X8_init_123 ?_
  refine yr_puts C0 P (index := 31) (wr := [(q1, .inl (xcI G, 408, .inl (fun _ => 0))), (q2, .inl (xcI G, 102, .inl (fun _ => 0))), (q3, .inl (xcI G, 150, .inl (fun _ => 0))), (q4, .inl (xcI G, 2, .inl (fun _ => 0))), (q5, .inl (xcI G, 2, .inl (fun _ => 0))), (q6, .inl (xcI G, 3, .inl (fun _ => 0)))]) 6 7 [0, 1, 2, 3, 4, 5] rfl rfl rfl (by decide) rfl (xPk_in [880, 882, 15, 65, 883] (by decide +kernel) (by decide +kernel)) (by unfold vp_in; decide) (Nat.le_of_ble_eq_true rfl) (Nat.le_of_ble_eq_true rfl) hl.1 d61_X8_init_124 (fun H locs P => ?_) ⟨(Nat.le_of_ble_eq_true rfl), (Nat.le_of_ble_eq_true rfl)⟩
  have P : yPs G _ s.heap [(q1, .inl (xcI G, 408, .inl (fun _ => 0))), (q2, .inl (xcI G, 102, .inl (fun _ => 0))), (q3, .inl (xcI G, 150, .inl (fun _ => 0))), (q4, .inl (xcI G, 2, .inl (fun _ => 0))), (q5, .inl (xcI G, 2, .inl (fun _ => 0))), (q6, .inl (xcI G, 3, .inl (fun _ => 0))), (a, .inr (7, [.ref q0, .ref q1, .ref q2, .int 0, .ref q3, .int 0, .int 0, .ref q4, .ref q5, .int 0, .int 0, .long 0, .ref q6, .long 0])), (q0, .inl (xcI G, 102, .inl (upd (upd (upd (upd (upd (upd (upd (upd (upd (upd (upd (upd (upd (fun _ => 0) (Int32.toNatClampNeg 2) 100) (Int32.toNatClampNeg 4) 1000) (Int32.toNatClampNeg (10 + 16 * 0 + 0)) 1000) (Int32.toNatClampNeg (10 + 16 * 0 + 1)) 10) (Int32.toNatClampNeg (10 + 16 * 0 + 2)) 20) (Int32.toNatClampNeg (10 + 16 * 0 + 3)) 100) (Int32.toNatClampNeg (10 + 16 * 0 + 5)) (500 * 0)) (Int32.toNatClampNeg (10 + 16 * 0 + 6)) ((500 * 0) + 500)) (Int32.toNatClampNeg (10 + 16 * 1 + 0)) 1000) (Int32.toNatClampNeg (10 + 16 * 1 + 1)) 10) (Int32.toNatClampNeg (10 + 16 * 1 + 2)) 20) (Int32.toNatClampNeg (10 + 16 * 1 + 3)) 100) (Int32.toNatClampNeg (10 + 16 * 1 + 5)) (500 * 1))))] H _ := P
  refine lv_aload_n hx hb d61_X8_init_127 rfl (lv_at hl 1 rfl) ?_
  refine lv_iload_n hx hb d61_X8_init_128 rfl (lv_at hl 0 rfl) ?_
  refine lv_bipush (v := 6) hx hb d61_X8_init_129 (by decide) ?_
  refine lv_sipush (v := 500) hx hb d61_X8_init_131 (by decide) ?_
  refine lv_iload_n hx hb d61_X8_init_134 rfl (lv_at hl 0 rfl) ?_
  refine lv_imul hx hb d61_X8_init_135 ?_
  refine lv_sipush (v := 500) hx hb d61_X8_init_136 (by decide) ?_
  refine lv_iadd hx hb d61_X8_init_139 ?_
  refine yr_puts C0 P (index := 31) (wr := [(q1, .inl (xcI G, 408, .inl (fun _ => 0))), (q2, .inl (xcI G, 102, .inl (fun _ => 0))), (q3, .inl (xcI G, 150, .inl (fun _ => 0))), (q4, .inl (xcI G, 2, .inl (fun _ => 0))), (q5, .inl (xcI G, 2, .inl (fun _ => 0))), (q6, .inl (xcI G, 3, .inl (fun _ => 0)))]) 6 7 [0, 1, 2, 3, 4, 5] rfl rfl rfl (by decide) rfl (xPk_in [880, 882, 15, 65, 883] (by decide +kernel) (by decide +kernel)) (by unfold vp_in; decide) (Nat.le_of_ble_eq_true rfl) (Nat.le_of_ble_eq_true rfl) hl.1 d61_X8_init_140 (fun H locs P => ?_) ⟨(Nat.le_of_ble_eq_true rfl), (Nat.le_of_ble_eq_true rfl)⟩
  have P : yPs G _ s.heap [(q1, .inl (xcI G, 408, .inl (fun _ => 0))), (q2, .inl (xcI G, 102, .inl (fun _ => 0))), (q3, .inl (xcI G, 150, .inl (fun _ => 0))), (q4, .inl (xcI G, 2, .inl (fun _ => 0))), (q5, .inl (xcI G, 2, .inl (fun _ => 0))), (q6, .inl (xcI G, 3, .inl (fun _ => 0))), (a, .inr (7, [.ref q0, .ref q1, .ref q2, .int 0, .ref q3, .int 0, .int 0, .ref q4, .ref q5, .int 0, .int 0, .long 0, .ref q6, .long 0])), (q0, .inl (xcI G, 102, .inl (upd (upd (upd (upd (upd (upd (upd (upd (upd (upd (upd (upd (upd (upd (fun _ => 0) (Int32.toNatClampNeg 2) 100) (Int32.toNatClampNeg 4) 1000) (Int32.toNatClampNeg (10 + 16 * 0 + 0)) 1000) (Int32.toNatClampNeg (10 + 16 * 0 + 1)) 10) (Int32.toNatClampNeg (10 + 16 * 0 + 2)) 20) (Int32.toNatClampNeg (10 + 16 * 0 + 3)) 100) (Int32.toNatClampNeg (10 + 16 * 0 + 5)) (500 * 0)) (Int32.toNatClampNeg (10 + 16 * 0 + 6)) ((500 * 0) + 500)) (Int32.toNatClampNeg (10 + 16 * 1 + 0)) 1000) (Int32.toNatClampNeg (10 + 16 * 1 + 1)) 10) (Int32.toNatClampNeg (10 + 16 * 1 + 2)) 20) (Int32.toNatClampNeg (10 + 16 * 1 + 3)) 100) (Int32.toNatClampNeg (10 + 16 * 1 + 5)) (500 * 1)) (Int32.toNatClampNeg (10 + 16 * 1 + 6)) ((500 * 1) + 500))))] H _ := P
  refine lv_iinc (lv' := [(1, .int 2), (0, .ref a)]) (k := 0) (v := 2) hx hb d61_X8_init_143 hl rfl (by decide) (by decide) rfl (fun ls hl => ?_)
  refine lv_goto (tgt := 78) hx hb d61_X8_init_146 (by decide) ?_
  refine lv_iload_n hx hb d61_X8_init_78 rfl (lv_at hl 0 rfl) ?_
  refine lv_iconst (v := 2) hx hb d61_X8_init_79 (by decide) ?_
  refine lv_icmp_ge (tgt := 149) hx hb d61_X8_init_80 (by decide) (fun _ => ?_) (fun h => absurd (by decide) h)
  have P := P.sub (ws' := [(a, .inr (7, [.ref q0, .ref q1, .ref q2, .int 0, .ref q3, .int 0, .int 0, .ref q4, .ref q5, .int 0, .int 0, .long 0, .ref q6, .long 0])), (q0, .inl (xcI G, 102, .inl yF)), (q1, .inl (xcI G, 408, .inl (fun _ => 0))), (q2, .inl (xcI G, 102, .inl (fun _ => 0))), (q3, .inl (xcI G, 150, .inl (fun _ => 0))), (q4, .inl (xcI G, 2, .inl (fun _ => 0))), (q5, .inl (xcI G, 2, .inl (fun _ => 0))), (q6, .inl (xcI G, 3, .inl (fun _ => 0)))]) [6, 7, 0, 1, 2, 3, 4, 5] rfl rfl
  exact yr_ret C0 (out := oModel) (yg [q0, q1, q2, q3, q4, q5, q6]) P hr d61_X8_init_149
