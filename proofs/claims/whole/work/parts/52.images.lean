/-! ===== MothsShare: image, from ===== -/
set_option maxHeartbeats 4000000 in
set_option maxRecDepth 100000 in
theorem c_copy_b14 {l : Launch} {X : zX} (ad : Nat → Nat) (T U : Nat → Int → Int) (e0 e1 e2 e3 e4 e5 e6 e7 e8 e9 e10 e11 e12 e13 : va_E) : zC l X yX4_copyFrom wsX4_copyFrom rm_X4_copyFrom ad [.ref (ad 23), .ref (ad 0)] (shE X ad (U) ++ [e0, e1, e2, e3, e4, e5, e6, e7, e8, e9, e10, e11, e12, e13] ++ shE X (zo ad 23) (T)) none (shE X ad (U) ++ [e0, e1, e2, e3, e4, e5, e6, e7, e8, e9, e10, e11, e12, e13] ++ shE X (zo ad 23) (copyT T U)) := by
  refine z_met (cc := cX4_copyFrom) (maxL := 2) (ret := none) (by decide) rfl (Nat.le_of_ble_eq_true rfl) ?_
  intro Z G
  change Z ad 0 0 0 [some _, some _] [] _
  refine z_aload_n G 1 rfl rfl dX4_copyFrom_0 ?_
  refine z_getf G 0 0 rfl rfl (by decide) hin_X4_copyFrom_X4 (List.mem_of_getElem? (i := 1) rfl) rfl dX4_copyFrom_1 ?_
  refine z_aload_n G 0 rfl rfl dX4_copyFrom_4 ?_
  refine z_getf G 23 0 rfl rfl (by decide) hin_X4_copyFrom_X4 (List.mem_of_getElem? (i := 1) rfl) rfl dX4_copyFrom_5 ?_
  refine z_callSP G (cs2 := [_, _, _, _, _, _, _, _, _, _, _, _, _, _, _, _, _, _, _, _, _, _, _, _, _, _, _, _, _, _, _, _]) [1, 24] (c_X4_copyRow (l := l) (X := X) _ 12 (U 1) (T 1) (by omega)) Y_X4_copyRow gX4_copyFrom_X4_copyRow ⟨Nat.le_of_ble_eq_true rfl, Nat.le_of_ble_eq_true rfl⟩ ⟨Nat.zero_le _, Nat.zero_le _⟩ rfl rfl (by decide) rfl rfl (Nat.le_of_ble_eq_true rfl) rfl dX4_copyFrom_8 ?_
  refine z_aload_n G 1 rfl rfl dX4_copyFrom_11 ?_
  refine z_getf G 0 1 rfl rfl (by decide) hin_X4_copyFrom_X4 (List.mem_of_getElem? (i := 2) rfl) rfl dX4_copyFrom_12 ?_
  refine z_aload_n G 0 rfl rfl dX4_copyFrom_15 ?_
  refine z_getf G 23 1 rfl rfl (by decide) hin_X4_copyFrom_X4 (List.mem_of_getElem? (i := 2) rfl) rfl dX4_copyFrom_16 ?_
  refine z_callSP G (cs2 := [_, _, _, _, _, _, _, _, _, _, _, _, _, _, _, _, _, _, _, _, _, _, _, _, _, _, _, _, _, _, _, _]) [2, 25] (c_X4_copyRow (l := l) (X := X) _ 12 (U 2) (T 2) (by omega)) Y_X4_copyRow gX4_copyFrom_X4_copyRow ⟨Nat.le_of_ble_eq_true rfl, Nat.le_of_ble_eq_true rfl⟩ ⟨Nat.zero_le _, Nat.zero_le _⟩ rfl rfl (by decide) rfl rfl (Nat.le_of_ble_eq_true rfl) rfl dX4_copyFrom_19 ?_
  refine z_aload_n G 1 rfl rfl dX4_copyFrom_22 ?_
  refine z_getf G 0 2 rfl rfl (by decide) hin_X4_copyFrom_X4 (List.mem_of_getElem? (i := 3) rfl) rfl dX4_copyFrom_23 ?_
  refine z_aload_n G 0 rfl rfl dX4_copyFrom_26 ?_
  refine z_getf G 23 2 rfl rfl (by decide) hin_X4_copyFrom_X4 (List.mem_of_getElem? (i := 3) rfl) rfl dX4_copyFrom_27 ?_
  refine z_callSP G (cs2 := [_, _, _, _, _, _, _, _, _, _, _, _, _, _, _, _, _, _, _, _, _, _, _, _, _, _, _, _, _, _, _, _]) [3, 26] (c_X4_copyRow (l := l) (X := X) _ 12 (U 3) (T 3) (by omega)) Y_X4_copyRow gX4_copyFrom_X4_copyRow ⟨Nat.le_of_ble_eq_true rfl, Nat.le_of_ble_eq_true rfl⟩ ⟨Nat.zero_le _, Nat.zero_le _⟩ rfl rfl (by decide) rfl rfl (Nat.le_of_ble_eq_true rfl) rfl dX4_copyFrom_30 ?_
  refine z_aload_n G 1 rfl rfl dX4_copyFrom_33 ?_
  refine z_getf G 0 3 rfl rfl (by decide) hin_X4_copyFrom_X4 (List.mem_of_getElem? (i := 4) rfl) rfl dX4_copyFrom_34 ?_
  refine z_aload_n G 0 rfl rfl dX4_copyFrom_37 ?_
  refine z_getf G 23 3 rfl rfl (by decide) hin_X4_copyFrom_X4 (List.mem_of_getElem? (i := 4) rfl) rfl dX4_copyFrom_38 ?_
  refine z_callSP G (cs2 := [_, _, _, _, _, _, _, _, _, _, _, _, _, _, _, _, _, _, _, _, _, _, _, _, _, _, _, _, _, _, _, _]) [4, 27] (c_X4_copyRow (l := l) (X := X) _ 12 (U 4) (T 4) (by omega)) Y_X4_copyRow gX4_copyFrom_X4_copyRow ⟨Nat.le_of_ble_eq_true rfl, Nat.le_of_ble_eq_true rfl⟩ ⟨Nat.zero_le _, Nat.zero_le _⟩ rfl rfl (by decide) rfl rfl (Nat.le_of_ble_eq_true rfl) rfl dX4_copyFrom_41 ?_
  refine z_aload_n G 0 rfl rfl dX4_copyFrom_44 ?_
  refine z_aload_n G 1 rfl rfl dX4_copyFrom_45 ?_
  refine z_getf G 0 4 rfl rfl (by decide) hin_X4_copyFrom_X4 (List.mem_of_getElem? (i := 5) rfl) rfl dX4_copyFrom_46 ?_
  refine z_putf G 23 4 rfl rfl (by decide) hin_X4_copyFrom_X4 tyX4 tyX4_ok nmX4 (List.mem_of_getElem? (i := 5) rfl) rfl rfl rfl rfl (Nat.le_of_ble_eq_true rfl) (cs' := [_, _, _, _, _, _, _, _, _, _, _, _, _, _, _, _, _, _, _, _, _, _, _, _, _, _, _, _, _, _, _, _]) rfl dX4_copyFrom_49 ?_
  refine z_aload_n G 1 rfl rfl dX4_copyFrom_52 ?_
  refine z_getf G 0 5 rfl rfl (by decide) hin_X4_copyFrom_X4 (List.mem_of_getElem? (i := 6) rfl) rfl dX4_copyFrom_53 ?_
  refine z_aload_n G 0 rfl rfl dX4_copyFrom_56 ?_
  refine z_getf G 23 5 rfl rfl (by decide) hin_X4_copyFrom_X4 (List.mem_of_getElem? (i := 6) rfl) rfl dX4_copyFrom_57 ?_
  refine z_callSP G (cs2 := [_, _, _, _, _, _, _, _, _, _, _, _, _, _, _, _, _, _, _, _, _, _, _, _, _, _, _, _, _, _, _, _]) [5, 28] (c_X4_copyRow (l := l) (X := X) _ 4 (U 5) (T 5) (by omega)) Y_X4_copyRow gX4_copyFrom_X4_copyRow ⟨Nat.le_of_ble_eq_true rfl, Nat.le_of_ble_eq_true rfl⟩ ⟨Nat.zero_le _, Nat.zero_le _⟩ rfl rfl (by decide) rfl rfl (Nat.le_of_ble_eq_true rfl) rfl dX4_copyFrom_60 ?_
  refine z_aload_n G 0 rfl rfl dX4_copyFrom_63 ?_
  refine z_aload_n G 1 rfl rfl dX4_copyFrom_64 ?_
  refine z_getf G 0 6 rfl rfl (by decide) hin_X4_copyFrom_X4 (List.mem_of_getElem? (i := 7) rfl) rfl dX4_copyFrom_65 ?_
  refine z_putf G 23 6 rfl rfl (by decide) hin_X4_copyFrom_X4 tyX4 tyX4_ok nmX4 (List.mem_of_getElem? (i := 7) rfl) rfl rfl rfl rfl (Nat.le_of_ble_eq_true rfl) (cs' := [_, _, _, _, _, _, _, _, _, _, _, _, _, _, _, _, _, _, _, _, _, _, _, _, _, _, _, _, _, _, _, _]) rfl dX4_copyFrom_68 ?_
  refine z_aload_n G 1 rfl rfl dX4_copyFrom_71 ?_
  refine z_getf G 0 7 rfl rfl (by decide) hin_X4_copyFrom_X4 (List.mem_of_getElem? (i := 8) rfl) rfl dX4_copyFrom_72 ?_
  refine z_aload_n G 0 rfl rfl dX4_copyFrom_75 ?_
  refine z_getf G 23 7 rfl rfl (by decide) hin_X4_copyFrom_X4 (List.mem_of_getElem? (i := 8) rfl) rfl dX4_copyFrom_76 ?_
  refine z_callSP G (cs2 := [_, _, _, _, _, _, _, _, _, _, _, _, _, _, _, _, _, _, _, _, _, _, _, _, _, _, _, _, _, _, _, _]) [6, 29] (c_X4_copyRow (l := l) (X := X) _ 4 (U 6) (T 6) (by omega)) Y_X4_copyRow gX4_copyFrom_X4_copyRow ⟨Nat.le_of_ble_eq_true rfl, Nat.le_of_ble_eq_true rfl⟩ ⟨Nat.zero_le _, Nat.zero_le _⟩ rfl rfl (by decide) rfl rfl (Nat.le_of_ble_eq_true rfl) rfl dX4_copyFrom_79 ?_
  refine z_aload_n G 0 rfl rfl dX4_copyFrom_82 ?_
  refine z_aload_n G 1 rfl rfl dX4_copyFrom_83 ?_
  refine z_getf G 0 8 rfl rfl (by decide) hin_X4_copyFrom_X4 (List.mem_of_getElem? (i := 9) rfl) rfl dX4_copyFrom_84 ?_
  refine z_putf G 23 8 rfl rfl (by decide) hin_X4_copyFrom_X4 tyX4 tyX4_ok nmX4 (List.mem_of_getElem? (i := 9) rfl) rfl rfl rfl rfl (Nat.le_of_ble_eq_true rfl) (cs' := [_, _, _, _, _, _, _, _, _, _, _, _, _, _, _, _, _, _, _, _, _, _, _, _, _, _, _, _, _, _, _, _]) rfl dX4_copyFrom_87 ?_
  refine z_aload_n G 0 rfl rfl dX4_copyFrom_90 ?_
  refine z_aload_n G 1 rfl rfl dX4_copyFrom_91 ?_
  refine z_getf G 0 9 rfl rfl (by decide) hin_X4_copyFrom_X4 (List.mem_of_getElem? (i := 10) rfl) rfl dX4_copyFrom_92 ?_
  refine z_putf G 23 9 rfl rfl (by decide) hin_X4_copyFrom_X4 tyX4 tyX4_ok nmX4 (List.mem_of_getElem? (i := 10) rfl) rfl rfl rfl rfl (Nat.le_of_ble_eq_true rfl) (cs' := [_, _, _, _, _, _, _, _, _, _, _, _, _, _, _, _, _, _, _, _, _, _, _, _, _, _, _, _, _, _, _, _]) rfl dX4_copyFrom_95 ?_
  refine z_aload_n G 0 rfl rfl dX4_copyFrom_98 ?_
  refine z_aload_n G 1 rfl rfl dX4_copyFrom_99 ?_
  refine z_getf G 0 10 rfl rfl (by decide) hin_X4_copyFrom_X4 (List.mem_of_getElem? (i := 11) rfl) rfl dX4_copyFrom_100 ?_
  refine z_putf G 23 10 rfl rfl (by decide) hin_X4_copyFrom_X4 tyX4 tyX4_ok nmX4 (List.mem_of_getElem? (i := 11) rfl) rfl rfl rfl rfl (Nat.le_of_ble_eq_true rfl) (cs' := [_, _, _, _, _, _, _, _, _, _, _, _, _, _, _, _, _, _, _, _, _, _, _, _, _, _, _, _, _, _, _, _]) rfl dX4_copyFrom_103 ?_
  refine z_aload_n G 1 rfl rfl dX4_copyFrom_106 ?_
  refine z_getf G 0 11 rfl rfl (by decide) hin_X4_copyFrom_X4 (List.mem_of_getElem? (i := 12) rfl) rfl dX4_copyFrom_107 ?_
  refine z_aload_n G 0 rfl rfl dX4_copyFrom_110 ?_
  refine z_getf G 23 11 rfl rfl (by decide) hin_X4_copyFrom_X4 (List.mem_of_getElem? (i := 12) rfl) rfl dX4_copyFrom_111 ?_
  refine z_callSP G (cs2 := [_, _, _, _, _, _, _, _, _, _, _, _, _, _, _, _, _, _, _, _, _, _, _, _, _, _, _, _, _, _, _, _]) [7, 30] (c_X4_copyRow (l := l) (X := X) _ 6 (U 7) (T 7) (by omega)) Y_X4_copyRow gX4_copyFrom_X4_copyRow ⟨Nat.le_of_ble_eq_true rfl, Nat.le_of_ble_eq_true rfl⟩ ⟨Nat.zero_le _, Nat.zero_le _⟩ rfl rfl (by decide) rfl rfl (Nat.le_of_ble_eq_true rfl) rfl dX4_copyFrom_114 ?_
  refine z_aload_n G 1 rfl rfl dX4_copyFrom_117 ?_
  refine z_getf G 0 12 rfl rfl (by decide) hin_X4_copyFrom_X4 (List.mem_of_getElem? (i := 13) rfl) rfl dX4_copyFrom_118 ?_
  refine z_aload_n G 0 rfl rfl dX4_copyFrom_121 ?_
  refine z_getf G 23 12 rfl rfl (by decide) hin_X4_copyFrom_X4 (List.mem_of_getElem? (i := 13) rfl) rfl dX4_copyFrom_122 ?_
  refine z_callSP G (cs2 := [_, _, _, _, _, _, _, _, _, _, _, _, _, _, _, _, _, _, _, _, _, _, _, _, _, _, _, _, _, _, _, _]) [8, 31] (c_X4_copyRow (l := l) (X := X) _ 6 (U 8) (T 8) (by omega)) Y_X4_copyRow gX4_copyFrom_X4_copyRow ⟨Nat.le_of_ble_eq_true rfl, Nat.le_of_ble_eq_true rfl⟩ ⟨Nat.zero_le _, Nat.zero_le _⟩ rfl rfl (by decide) rfl rfl (Nat.le_of_ble_eq_true rfl) rfl dX4_copyFrom_125 ?_
  refine z_aload_n G 0 rfl rfl dX4_copyFrom_128 ?_
  refine z_aload_n G 1 rfl rfl dX4_copyFrom_129 ?_
  refine z_getf G 0 13 rfl rfl (by decide) hin_X4_copyFrom_X4 (List.mem_of_getElem? (i := 14) rfl) rfl dX4_copyFrom_130 ?_
  refine z_putf G 23 13 rfl rfl (by decide) hin_X4_copyFrom_X4 tyX4 tyX4_ok nmX4 (List.mem_of_getElem? (i := 14) rfl) rfl rfl rfl rfl (Nat.le_of_ble_eq_true rfl) (cs' := [_, _, _, _, _, _, _, _, _, _, _, _, _, _, _, _, _, _, _, _, _, _, _, _, _, _, _, _, _, _, _, _]) rfl dX4_copyFrom_133 ?_
  exact z_vret G rfl dX4_copyFrom_136 ⟨rfl, rfl, rfl⟩
set_option maxHeartbeats 4000000 in
set_option maxRecDepth 100000 in
theorem c_copy_b23 {l : Launch} {X : zX} (ad : Nat → Nat) (T U : Nat → Int → Int) (e0 e1 e2 e3 e4 e5 e6 e7 e8 e9 e10 e11 e12 e13 e14 e15 e16 e17 e18 e19 e20 e21 e22 : va_E) : zC l X yX4_copyFrom wsX4_copyFrom rm_X4_copyFrom ad [.ref (ad 32), .ref (ad 0)] (shE X ad (U) ++ [e0, e1, e2, e3, e4, e5, e6, e7, e8, e9, e10, e11, e12, e13, e14, e15, e16, e17, e18, e19, e20, e21, e22] ++ shE X (zo ad 32) (T)) none (shE X ad (U) ++ [e0, e1, e2, e3, e4, e5, e6, e7, e8, e9, e10, e11, e12, e13, e14, e15, e16, e17, e18, e19, e20, e21, e22] ++ shE X (zo ad 32) (copyT T U)) := by
  refine z_met (cc := cX4_copyFrom) (maxL := 2) (ret := none) (by decide) rfl (Nat.le_of_ble_eq_true rfl) ?_
  intro Z G
  change Z ad 0 0 0 [some _, some _] [] _
  refine z_aload_n G 1 rfl rfl dX4_copyFrom_0 ?_
  refine z_getf G 0 0 rfl rfl (by decide) hin_X4_copyFrom_X4 (List.mem_of_getElem? (i := 1) rfl) rfl dX4_copyFrom_1 ?_
  refine z_aload_n G 0 rfl rfl dX4_copyFrom_4 ?_
  refine z_getf G 32 0 rfl rfl (by decide) hin_X4_copyFrom_X4 (List.mem_of_getElem? (i := 1) rfl) rfl dX4_copyFrom_5 ?_
  refine z_callSP G (cs2 := [_, _, _, _, _, _, _, _, _, _, _, _, _, _, _, _, _, _, _, _, _, _, _, _, _, _, _, _, _, _, _, _, _, _, _, _, _, _, _, _, _]) [1, 33] (c_X4_copyRow (l := l) (X := X) _ 12 (U 1) (T 1) (by omega)) Y_X4_copyRow gX4_copyFrom_X4_copyRow ⟨Nat.le_of_ble_eq_true rfl, Nat.le_of_ble_eq_true rfl⟩ ⟨Nat.zero_le _, Nat.zero_le _⟩ rfl rfl (by decide) rfl rfl (Nat.le_of_ble_eq_true rfl) rfl dX4_copyFrom_8 ?_
  refine z_aload_n G 1 rfl rfl dX4_copyFrom_11 ?_
  refine z_getf G 0 1 rfl rfl (by decide) hin_X4_copyFrom_X4 (List.mem_of_getElem? (i := 2) rfl) rfl dX4_copyFrom_12 ?_
  refine z_aload_n G 0 rfl rfl dX4_copyFrom_15 ?_
  refine z_getf G 32 1 rfl rfl (by decide) hin_X4_copyFrom_X4 (List.mem_of_getElem? (i := 2) rfl) rfl dX4_copyFrom_16 ?_
  refine z_callSP G (cs2 := [_, _, _, _, _, _, _, _, _, _, _, _, _, _, _, _, _, _, _, _, _, _, _, _, _, _, _, _, _, _, _, _, _, _, _, _, _, _, _, _, _]) [2, 34] (c_X4_copyRow (l := l) (X := X) _ 12 (U 2) (T 2) (by omega)) Y_X4_copyRow gX4_copyFrom_X4_copyRow ⟨Nat.le_of_ble_eq_true rfl, Nat.le_of_ble_eq_true rfl⟩ ⟨Nat.zero_le _, Nat.zero_le _⟩ rfl rfl (by decide) rfl rfl (Nat.le_of_ble_eq_true rfl) rfl dX4_copyFrom_19 ?_
  refine z_aload_n G 1 rfl rfl dX4_copyFrom_22 ?_
  refine z_getf G 0 2 rfl rfl (by decide) hin_X4_copyFrom_X4 (List.mem_of_getElem? (i := 3) rfl) rfl dX4_copyFrom_23 ?_
  refine z_aload_n G 0 rfl rfl dX4_copyFrom_26 ?_
  refine z_getf G 32 2 rfl rfl (by decide) hin_X4_copyFrom_X4 (List.mem_of_getElem? (i := 3) rfl) rfl dX4_copyFrom_27 ?_
  refine z_callSP G (cs2 := [_, _, _, _, _, _, _, _, _, _, _, _, _, _, _, _, _, _, _, _, _, _, _, _, _, _, _, _, _, _, _, _, _, _, _, _, _, _, _, _, _]) [3, 35] (c_X4_copyRow (l := l) (X := X) _ 12 (U 3) (T 3) (by omega)) Y_X4_copyRow gX4_copyFrom_X4_copyRow ⟨Nat.le_of_ble_eq_true rfl, Nat.le_of_ble_eq_true rfl⟩ ⟨Nat.zero_le _, Nat.zero_le _⟩ rfl rfl (by decide) rfl rfl (Nat.le_of_ble_eq_true rfl) rfl dX4_copyFrom_30 ?_
  refine z_aload_n G 1 rfl rfl dX4_copyFrom_33 ?_
  refine z_getf G 0 3 rfl rfl (by decide) hin_X4_copyFrom_X4 (List.mem_of_getElem? (i := 4) rfl) rfl dX4_copyFrom_34 ?_
  refine z_aload_n G 0 rfl rfl dX4_copyFrom_37 ?_
  refine z_getf G 32 3 rfl rfl (by decide) hin_X4_copyFrom_X4 (List.mem_of_getElem? (i := 4) rfl) rfl dX4_copyFrom_38 ?_
  refine z_callSP G (cs2 := [_, _, _, _, _, _, _, _, _, _, _, _, _, _, _, _, _, _, _, _, _, _, _, _, _, _, _, _, _, _, _, _, _, _, _, _, _, _, _, _, _]) [4, 36] (c_X4_copyRow (l := l) (X := X) _ 12 (U 4) (T 4) (by omega)) Y_X4_copyRow gX4_copyFrom_X4_copyRow ⟨Nat.le_of_ble_eq_true rfl, Nat.le_of_ble_eq_true rfl⟩ ⟨Nat.zero_le _, Nat.zero_le _⟩ rfl rfl (by decide) rfl rfl (Nat.le_of_ble_eq_true rfl) rfl dX4_copyFrom_41 ?_
  refine z_aload_n G 0 rfl rfl dX4_copyFrom_44 ?_
  refine z_aload_n G 1 rfl rfl dX4_copyFrom_45 ?_
  refine z_getf G 0 4 rfl rfl (by decide) hin_X4_copyFrom_X4 (List.mem_of_getElem? (i := 5) rfl) rfl dX4_copyFrom_46 ?_
  refine z_putf G 32 4 rfl rfl (by decide) hin_X4_copyFrom_X4 tyX4 tyX4_ok nmX4 (List.mem_of_getElem? (i := 5) rfl) rfl rfl rfl rfl (Nat.le_of_ble_eq_true rfl) (cs' := [_, _, _, _, _, _, _, _, _, _, _, _, _, _, _, _, _, _, _, _, _, _, _, _, _, _, _, _, _, _, _, _, _, _, _, _, _, _, _, _, _]) rfl dX4_copyFrom_49 ?_
  refine z_aload_n G 1 rfl rfl dX4_copyFrom_52 ?_
  refine z_getf G 0 5 rfl rfl (by decide) hin_X4_copyFrom_X4 (List.mem_of_getElem? (i := 6) rfl) rfl dX4_copyFrom_53 ?_
  refine z_aload_n G 0 rfl rfl dX4_copyFrom_56 ?_
  refine z_getf G 32 5 rfl rfl (by decide) hin_X4_copyFrom_X4 (List.mem_of_getElem? (i := 6) rfl) rfl dX4_copyFrom_57 ?_
  refine z_callSP G (cs2 := [_, _, _, _, _, _, _, _, _, _, _, _, _, _, _, _, _, _, _, _, _, _, _, _, _, _, _, _, _, _, _, _, _, _, _, _, _, _, _, _, _]) [5, 37] (c_X4_copyRow (l := l) (X := X) _ 4 (U 5) (T 5) (by omega)) Y_X4_copyRow gX4_copyFrom_X4_copyRow ⟨Nat.le_of_ble_eq_true rfl, Nat.le_of_ble_eq_true rfl⟩ ⟨Nat.zero_le _, Nat.zero_le _⟩ rfl rfl (by decide) rfl rfl (Nat.le_of_ble_eq_true rfl) rfl dX4_copyFrom_60 ?_
  refine z_aload_n G 0 rfl rfl dX4_copyFrom_63 ?_
  refine z_aload_n G 1 rfl rfl dX4_copyFrom_64 ?_
  refine z_getf G 0 6 rfl rfl (by decide) hin_X4_copyFrom_X4 (List.mem_of_getElem? (i := 7) rfl) rfl dX4_copyFrom_65 ?_
  refine z_putf G 32 6 rfl rfl (by decide) hin_X4_copyFrom_X4 tyX4 tyX4_ok nmX4 (List.mem_of_getElem? (i := 7) rfl) rfl rfl rfl rfl (Nat.le_of_ble_eq_true rfl) (cs' := [_, _, _, _, _, _, _, _, _, _, _, _, _, _, _, _, _, _, _, _, _, _, _, _, _, _, _, _, _, _, _, _, _, _, _, _, _, _, _, _, _]) rfl dX4_copyFrom_68 ?_
  refine z_aload_n G 1 rfl rfl dX4_copyFrom_71 ?_
  refine z_getf G 0 7 rfl rfl (by decide) hin_X4_copyFrom_X4 (List.mem_of_getElem? (i := 8) rfl) rfl dX4_copyFrom_72 ?_
  refine z_aload_n G 0 rfl rfl dX4_copyFrom_75 ?_
  refine z_getf G 32 7 rfl rfl (by decide) hin_X4_copyFrom_X4 (List.mem_of_getElem? (i := 8) rfl) rfl dX4_copyFrom_76 ?_
  refine z_callSP G (cs2 := [_, _, _, _, _, _, _, _, _, _, _, _, _, _, _, _, _, _, _, _, _, _, _, _, _, _, _, _, _, _, _, _, _, _, _, _, _, _, _, _, _]) [6, 38] (c_X4_copyRow (l := l) (X := X) _ 4 (U 6) (T 6) (by omega)) Y_X4_copyRow gX4_copyFrom_X4_copyRow ⟨Nat.le_of_ble_eq_true rfl, Nat.le_of_ble_eq_true rfl⟩ ⟨Nat.zero_le _, Nat.zero_le _⟩ rfl rfl (by decide) rfl rfl (Nat.le_of_ble_eq_true rfl) rfl dX4_copyFrom_79 ?_
  refine z_aload_n G 0 rfl rfl dX4_copyFrom_82 ?_
  refine z_aload_n G 1 rfl rfl dX4_copyFrom_83 ?_
  refine z_getf G 0 8 rfl rfl (by decide) hin_X4_copyFrom_X4 (List.mem_of_getElem? (i := 9) rfl) rfl dX4_copyFrom_84 ?_
  refine z_putf G 32 8 rfl rfl (by decide) hin_X4_copyFrom_X4 tyX4 tyX4_ok nmX4 (List.mem_of_getElem? (i := 9) rfl) rfl rfl rfl rfl (Nat.le_of_ble_eq_true rfl) (cs' := [_, _, _, _, _, _, _, _, _, _, _, _, _, _, _, _, _, _, _, _, _, _, _, _, _, _, _, _, _, _, _, _, _, _, _, _, _, _, _, _, _]) rfl dX4_copyFrom_87 ?_
  refine z_aload_n G 0 rfl rfl dX4_copyFrom_90 ?_
  refine z_aload_n G 1 rfl rfl dX4_copyFrom_91 ?_
  refine z_getf G 0 9 rfl rfl (by decide) hin_X4_copyFrom_X4 (List.mem_of_getElem? (i := 10) rfl) rfl dX4_copyFrom_92 ?_
  refine z_putf G 32 9 rfl rfl (by decide) hin_X4_copyFrom_X4 tyX4 tyX4_ok nmX4 (List.mem_of_getElem? (i := 10) rfl) rfl rfl rfl rfl (Nat.le_of_ble_eq_true rfl) (cs' := [_, _, _, _, _, _, _, _, _, _, _, _, _, _, _, _, _, _, _, _, _, _, _, _, _, _, _, _, _, _, _, _, _, _, _, _, _, _, _, _, _]) rfl dX4_copyFrom_95 ?_
  refine z_aload_n G 0 rfl rfl dX4_copyFrom_98 ?_
  refine z_aload_n G 1 rfl rfl dX4_copyFrom_99 ?_
  refine z_getf G 0 10 rfl rfl (by decide) hin_X4_copyFrom_X4 (List.mem_of_getElem? (i := 11) rfl) rfl dX4_copyFrom_100 ?_
  refine z_putf G 32 10 rfl rfl (by decide) hin_X4_copyFrom_X4 tyX4 tyX4_ok nmX4 (List.mem_of_getElem? (i := 11) rfl) rfl rfl rfl rfl (Nat.le_of_ble_eq_true rfl) (cs' := [_, _, _, _, _, _, _, _, _, _, _, _, _, _, _, _, _, _, _, _, _, _, _, _, _, _, _, _, _, _, _, _, _, _, _, _, _, _, _, _, _]) rfl dX4_copyFrom_103 ?_
  refine z_aload_n G 1 rfl rfl dX4_copyFrom_106 ?_
  refine z_getf G 0 11 rfl rfl (by decide) hin_X4_copyFrom_X4 (List.mem_of_getElem? (i := 12) rfl) rfl dX4_copyFrom_107 ?_
  refine z_aload_n G 0 rfl rfl dX4_copyFrom_110 ?_
  refine z_getf G 32 11 rfl rfl (by decide) hin_X4_copyFrom_X4 (List.mem_of_getElem? (i := 12) rfl) rfl dX4_copyFrom_111 ?_
  refine z_callSP G (cs2 := [_, _, _, _, _, _, _, _, _, _, _, _, _, _, _, _, _, _, _, _, _, _, _, _, _, _, _, _, _, _, _, _, _, _, _, _, _, _, _, _, _]) [7, 39] (c_X4_copyRow (l := l) (X := X) _ 6 (U 7) (T 7) (by omega)) Y_X4_copyRow gX4_copyFrom_X4_copyRow ⟨Nat.le_of_ble_eq_true rfl, Nat.le_of_ble_eq_true rfl⟩ ⟨Nat.zero_le _, Nat.zero_le _⟩ rfl rfl (by decide) rfl rfl (Nat.le_of_ble_eq_true rfl) rfl dX4_copyFrom_114 ?_
  refine z_aload_n G 1 rfl rfl dX4_copyFrom_117 ?_
  refine z_getf G 0 12 rfl rfl (by decide) hin_X4_copyFrom_X4 (List.mem_of_getElem? (i := 13) rfl) rfl dX4_copyFrom_118 ?_
  refine z_aload_n G 0 rfl rfl dX4_copyFrom_121 ?_
  refine z_getf G 32 12 rfl rfl (by decide) hin_X4_copyFrom_X4 (List.mem_of_getElem? (i := 13) rfl) rfl dX4_copyFrom_122 ?_
  refine z_callSP G (cs2 := [_, _, _, _, _, _, _, _, _, _, _, _, _, _, _, _, _, _, _, _, _, _, _, _, _, _, _, _, _, _, _, _, _, _, _, _, _, _, _, _, _]) [8, 40] (c_X4_copyRow (l := l) (X := X) _ 6 (U 8) (T 8) (by omega)) Y_X4_copyRow gX4_copyFrom_X4_copyRow ⟨Nat.le_of_ble_eq_true rfl, Nat.le_of_ble_eq_true rfl⟩ ⟨Nat.zero_le _, Nat.zero_le _⟩ rfl rfl (by decide) rfl rfl (Nat.le_of_ble_eq_true rfl) rfl dX4_copyFrom_125 ?_
  refine z_aload_n G 0 rfl rfl dX4_copyFrom_128 ?_
  refine z_aload_n G 1 rfl rfl dX4_copyFrom_129 ?_
  refine z_getf G 0 13 rfl rfl (by decide) hin_X4_copyFrom_X4 (List.mem_of_getElem? (i := 14) rfl) rfl dX4_copyFrom_130 ?_
  refine z_putf G 32 13 rfl rfl (by decide) hin_X4_copyFrom_X4 tyX4 tyX4_ok nmX4 (List.mem_of_getElem? (i := 14) rfl) rfl rfl rfl rfl (Nat.le_of_ble_eq_true rfl) (cs' := [_, _, _, _, _, _, _, _, _, _, _, _, _, _, _, _, _, _, _, _, _, _, _, _, _, _, _, _, _, _, _, _, _, _, _, _, _, _, _, _, _]) rfl dX4_copyFrom_133 ?_
  exact z_vret G rfl dX4_copyFrom_136 ⟨rfl, rfl, rfl⟩
set_option maxHeartbeats 4000000 in
set_option maxRecDepth 100000 in
theorem c_copy_f14 {l : Launch} {X : zX} (ad : Nat → Nat) (T U : Nat → Int → Int) (e0 e1 e2 e3 e4 e5 e6 e7 e8 e9 e10 e11 e12 e13 : va_E) : zC l X yX4_copyFrom wsX4_copyFrom rm_X4_copyFrom ad [.ref (ad 0), .ref (ad 23)] (shE X ad (T) ++ [e0, e1, e2, e3, e4, e5, e6, e7, e8, e9, e10, e11, e12, e13] ++ shE X (zo ad 23) (U)) none (shE X ad (copyT T U) ++ [e0, e1, e2, e3, e4, e5, e6, e7, e8, e9, e10, e11, e12, e13] ++ shE X (zo ad 23) (U)) := by
  refine z_met (cc := cX4_copyFrom) (maxL := 2) (ret := none) (by decide) rfl (Nat.le_of_ble_eq_true rfl) ?_
  intro Z G
  change Z ad 0 0 0 [some _, some _] [] _
  refine z_aload_n G 1 rfl rfl dX4_copyFrom_0 ?_
  refine z_getf G 23 0 rfl rfl (by decide) hin_X4_copyFrom_X4 (List.mem_of_getElem? (i := 1) rfl) rfl dX4_copyFrom_1 ?_
  refine z_aload_n G 0 rfl rfl dX4_copyFrom_4 ?_
  refine z_getf G 0 0 rfl rfl (by decide) hin_X4_copyFrom_X4 (List.mem_of_getElem? (i := 1) rfl) rfl dX4_copyFrom_5 ?_
  refine z_callSP G (cs2 := [_, _, _, _, _, _, _, _, _, _, _, _, _, _, _, _, _, _, _, _, _, _, _, _, _, _, _, _, _, _, _, _]) [24, 1] (c_X4_copyRow (l := l) (X := X) _ 12 (U 1) (T 1) (by omega)) Y_X4_copyRow gX4_copyFrom_X4_copyRow ⟨Nat.le_of_ble_eq_true rfl, Nat.le_of_ble_eq_true rfl⟩ ⟨Nat.zero_le _, Nat.zero_le _⟩ rfl rfl (by decide) rfl rfl (Nat.le_of_ble_eq_true rfl) rfl dX4_copyFrom_8 ?_
  refine z_aload_n G 1 rfl rfl dX4_copyFrom_11 ?_
  refine z_getf G 23 1 rfl rfl (by decide) hin_X4_copyFrom_X4 (List.mem_of_getElem? (i := 2) rfl) rfl dX4_copyFrom_12 ?_
  refine z_aload_n G 0 rfl rfl dX4_copyFrom_15 ?_
  refine z_getf G 0 1 rfl rfl (by decide) hin_X4_copyFrom_X4 (List.mem_of_getElem? (i := 2) rfl) rfl dX4_copyFrom_16 ?_
  refine z_callSP G (cs2 := [_, _, _, _, _, _, _, _, _, _, _, _, _, _, _, _, _, _, _, _, _, _, _, _, _, _, _, _, _, _, _, _]) [25, 2] (c_X4_copyRow (l := l) (X := X) _ 12 (U 2) (T 2) (by omega)) Y_X4_copyRow gX4_copyFrom_X4_copyRow ⟨Nat.le_of_ble_eq_true rfl, Nat.le_of_ble_eq_true rfl⟩ ⟨Nat.zero_le _, Nat.zero_le _⟩ rfl rfl (by decide) rfl rfl (Nat.le_of_ble_eq_true rfl) rfl dX4_copyFrom_19 ?_
  refine z_aload_n G 1 rfl rfl dX4_copyFrom_22 ?_
  refine z_getf G 23 2 rfl rfl (by decide) hin_X4_copyFrom_X4 (List.mem_of_getElem? (i := 3) rfl) rfl dX4_copyFrom_23 ?_
  refine z_aload_n G 0 rfl rfl dX4_copyFrom_26 ?_
  refine z_getf G 0 2 rfl rfl (by decide) hin_X4_copyFrom_X4 (List.mem_of_getElem? (i := 3) rfl) rfl dX4_copyFrom_27 ?_
  refine z_callSP G (cs2 := [_, _, _, _, _, _, _, _, _, _, _, _, _, _, _, _, _, _, _, _, _, _, _, _, _, _, _, _, _, _, _, _]) [26, 3] (c_X4_copyRow (l := l) (X := X) _ 12 (U 3) (T 3) (by omega)) Y_X4_copyRow gX4_copyFrom_X4_copyRow ⟨Nat.le_of_ble_eq_true rfl, Nat.le_of_ble_eq_true rfl⟩ ⟨Nat.zero_le _, Nat.zero_le _⟩ rfl rfl (by decide) rfl rfl (Nat.le_of_ble_eq_true rfl) rfl dX4_copyFrom_30 ?_
  refine z_aload_n G 1 rfl rfl dX4_copyFrom_33 ?_
  refine z_getf G 23 3 rfl rfl (by decide) hin_X4_copyFrom_X4 (List.mem_of_getElem? (i := 4) rfl) rfl dX4_copyFrom_34 ?_
  refine z_aload_n G 0 rfl rfl dX4_copyFrom_37 ?_
  refine z_getf G 0 3 rfl rfl (by decide) hin_X4_copyFrom_X4 (List.mem_of_getElem? (i := 4) rfl) rfl dX4_copyFrom_38 ?_
  refine z_callSP G (cs2 := [_, _, _, _, _, _, _, _, _, _, _, _, _, _, _, _, _, _, _, _, _, _, _, _, _, _, _, _, _, _, _, _]) [27, 4] (c_X4_copyRow (l := l) (X := X) _ 12 (U 4) (T 4) (by omega)) Y_X4_copyRow gX4_copyFrom_X4_copyRow ⟨Nat.le_of_ble_eq_true rfl, Nat.le_of_ble_eq_true rfl⟩ ⟨Nat.zero_le _, Nat.zero_le _⟩ rfl rfl (by decide) rfl rfl (Nat.le_of_ble_eq_true rfl) rfl dX4_copyFrom_41 ?_
  refine z_aload_n G 0 rfl rfl dX4_copyFrom_44 ?_
  refine z_aload_n G 1 rfl rfl dX4_copyFrom_45 ?_
  refine z_getf G 23 4 rfl rfl (by decide) hin_X4_copyFrom_X4 (List.mem_of_getElem? (i := 5) rfl) rfl dX4_copyFrom_46 ?_
  refine z_putf G 0 4 rfl rfl (by decide) hin_X4_copyFrom_X4 tyX4 tyX4_ok nmX4 (List.mem_of_getElem? (i := 5) rfl) rfl rfl rfl rfl (Nat.le_of_ble_eq_true rfl) (cs' := [_, _, _, _, _, _, _, _, _, _, _, _, _, _, _, _, _, _, _, _, _, _, _, _, _, _, _, _, _, _, _, _]) rfl dX4_copyFrom_49 ?_
  refine z_aload_n G 1 rfl rfl dX4_copyFrom_52 ?_
  refine z_getf G 23 5 rfl rfl (by decide) hin_X4_copyFrom_X4 (List.mem_of_getElem? (i := 6) rfl) rfl dX4_copyFrom_53 ?_
  refine z_aload_n G 0 rfl rfl dX4_copyFrom_56 ?_
  refine z_getf G 0 5 rfl rfl (by decide) hin_X4_copyFrom_X4 (List.mem_of_getElem? (i := 6) rfl) rfl dX4_copyFrom_57 ?_
  refine z_callSP G (cs2 := [_, _, _, _, _, _, _, _, _, _, _, _, _, _, _, _, _, _, _, _, _, _, _, _, _, _, _, _, _, _, _, _]) [28, 5] (c_X4_copyRow (l := l) (X := X) _ 4 (U 5) (T 5) (by omega)) Y_X4_copyRow gX4_copyFrom_X4_copyRow ⟨Nat.le_of_ble_eq_true rfl, Nat.le_of_ble_eq_true rfl⟩ ⟨Nat.zero_le _, Nat.zero_le _⟩ rfl rfl (by decide) rfl rfl (Nat.le_of_ble_eq_true rfl) rfl dX4_copyFrom_60 ?_
  refine z_aload_n G 0 rfl rfl dX4_copyFrom_63 ?_
  refine z_aload_n G 1 rfl rfl dX4_copyFrom_64 ?_
  refine z_getf G 23 6 rfl rfl (by decide) hin_X4_copyFrom_X4 (List.mem_of_getElem? (i := 7) rfl) rfl dX4_copyFrom_65 ?_
  refine z_putf G 0 6 rfl rfl (by decide) hin_X4_copyFrom_X4 tyX4 tyX4_ok nmX4 (List.mem_of_getElem? (i := 7) rfl) rfl rfl rfl rfl (Nat.le_of_ble_eq_true rfl) (cs' := [_, _, _, _, _, _, _, _, _, _, _, _, _, _, _, _, _, _, _, _, _, _, _, _, _, _, _, _, _, _, _, _]) rfl dX4_copyFrom_68 ?_
  refine z_aload_n G 1 rfl rfl dX4_copyFrom_71 ?_
  refine z_getf G 23 7 rfl rfl (by decide) hin_X4_copyFrom_X4 (List.mem_of_getElem? (i := 8) rfl) rfl dX4_copyFrom_72 ?_
  refine z_aload_n G 0 rfl rfl dX4_copyFrom_75 ?_
  refine z_getf G 0 7 rfl rfl (by decide) hin_X4_copyFrom_X4 (List.mem_of_getElem? (i := 8) rfl) rfl dX4_copyFrom_76 ?_
  refine z_callSP G (cs2 := [_, _, _, _, _, _, _, _, _, _, _, _, _, _, _, _, _, _, _, _, _, _, _, _, _, _, _, _, _, _, _, _]) [29, 6] (c_X4_copyRow (l := l) (X := X) _ 4 (U 6) (T 6) (by omega)) Y_X4_copyRow gX4_copyFrom_X4_copyRow ⟨Nat.le_of_ble_eq_true rfl, Nat.le_of_ble_eq_true rfl⟩ ⟨Nat.zero_le _, Nat.zero_le _⟩ rfl rfl (by decide) rfl rfl (Nat.le_of_ble_eq_true rfl) rfl dX4_copyFrom_79 ?_
  refine z_aload_n G 0 rfl rfl dX4_copyFrom_82 ?_
  refine z_aload_n G 1 rfl rfl dX4_copyFrom_83 ?_
  refine z_getf G 23 8 rfl rfl (by decide) hin_X4_copyFrom_X4 (List.mem_of_getElem? (i := 9) rfl) rfl dX4_copyFrom_84 ?_
  refine z_putf G 0 8 rfl rfl (by decide) hin_X4_copyFrom_X4 tyX4 tyX4_ok nmX4 (List.mem_of_getElem? (i := 9) rfl) rfl rfl rfl rfl (Nat.le_of_ble_eq_true rfl) (cs' := [_, _, _, _, _, _, _, _, _, _, _, _, _, _, _, _, _, _, _, _, _, _, _, _, _, _, _, _, _, _, _, _]) rfl dX4_copyFrom_87 ?_
  refine z_aload_n G 0 rfl rfl dX4_copyFrom_90 ?_
  refine z_aload_n G 1 rfl rfl dX4_copyFrom_91 ?_
  refine z_getf G 23 9 rfl rfl (by decide) hin_X4_copyFrom_X4 (List.mem_of_getElem? (i := 10) rfl) rfl dX4_copyFrom_92 ?_
  refine z_putf G 0 9 rfl rfl (by decide) hin_X4_copyFrom_X4 tyX4 tyX4_ok nmX4 (List.mem_of_getElem? (i := 10) rfl) rfl rfl rfl rfl (Nat.le_of_ble_eq_true rfl) (cs' := [_, _, _, _, _, _, _, _, _, _, _, _, _, _, _, _, _, _, _, _, _, _, _, _, _, _, _, _, _, _, _, _]) rfl dX4_copyFrom_95 ?_
  refine z_aload_n G 0 rfl rfl dX4_copyFrom_98 ?_
  refine z_aload_n G 1 rfl rfl dX4_copyFrom_99 ?_
  refine z_getf G 23 10 rfl rfl (by decide) hin_X4_copyFrom_X4 (List.mem_of_getElem? (i := 11) rfl) rfl dX4_copyFrom_100 ?_
  refine z_putf G 0 10 rfl rfl (by decide) hin_X4_copyFrom_X4 tyX4 tyX4_ok nmX4 (List.mem_of_getElem? (i := 11) rfl) rfl rfl rfl rfl (Nat.le_of_ble_eq_true rfl) (cs' := [_, _, _, _, _, _, _, _, _, _, _, _, _, _, _, _, _, _, _, _, _, _, _, _, _, _, _, _, _, _, _, _]) rfl dX4_copyFrom_103 ?_
  refine z_aload_n G 1 rfl rfl dX4_copyFrom_106 ?_
  refine z_getf G 23 11 rfl rfl (by decide) hin_X4_copyFrom_X4 (List.mem_of_getElem? (i := 12) rfl) rfl dX4_copyFrom_107 ?_
  refine z_aload_n G 0 rfl rfl dX4_copyFrom_110 ?_
  refine z_getf G 0 11 rfl rfl (by decide) hin_X4_copyFrom_X4 (List.mem_of_getElem? (i := 12) rfl) rfl dX4_copyFrom_111 ?_
  refine z_callSP G (cs2 := [_, _, _, _, _, _, _, _, _, _, _, _, _, _, _, _, _, _, _, _, _, _, _, _, _, _, _, _, _, _, _, _]) [30, 7] (c_X4_copyRow (l := l) (X := X) _ 6 (U 7) (T 7) (by omega)) Y_X4_copyRow gX4_copyFrom_X4_copyRow ⟨Nat.le_of_ble_eq_true rfl, Nat.le_of_ble_eq_true rfl⟩ ⟨Nat.zero_le _, Nat.zero_le _⟩ rfl rfl (by decide) rfl rfl (Nat.le_of_ble_eq_true rfl) rfl dX4_copyFrom_114 ?_
  refine z_aload_n G 1 rfl rfl dX4_copyFrom_117 ?_
  refine z_getf G 23 12 rfl rfl (by decide) hin_X4_copyFrom_X4 (List.mem_of_getElem? (i := 13) rfl) rfl dX4_copyFrom_118 ?_
  refine z_aload_n G 0 rfl rfl dX4_copyFrom_121 ?_
  refine z_getf G 0 12 rfl rfl (by decide) hin_X4_copyFrom_X4 (List.mem_of_getElem? (i := 13) rfl) rfl dX4_copyFrom_122 ?_
  refine z_callSP G (cs2 := [_, _, _, _, _, _, _, _, _, _, _, _, _, _, _, _, _, _, _, _, _, _, _, _, _, _, _, _, _, _, _, _]) [31, 8] (c_X4_copyRow (l := l) (X := X) _ 6 (U 8) (T 8) (by omega)) Y_X4_copyRow gX4_copyFrom_X4_copyRow ⟨Nat.le_of_ble_eq_true rfl, Nat.le_of_ble_eq_true rfl⟩ ⟨Nat.zero_le _, Nat.zero_le _⟩ rfl rfl (by decide) rfl rfl (Nat.le_of_ble_eq_true rfl) rfl dX4_copyFrom_125 ?_
  refine z_aload_n G 0 rfl rfl dX4_copyFrom_128 ?_
  refine z_aload_n G 1 rfl rfl dX4_copyFrom_129 ?_
  refine z_getf G 23 13 rfl rfl (by decide) hin_X4_copyFrom_X4 (List.mem_of_getElem? (i := 14) rfl) rfl dX4_copyFrom_130 ?_
  refine z_putf G 0 13 rfl rfl (by decide) hin_X4_copyFrom_X4 tyX4 tyX4_ok nmX4 (List.mem_of_getElem? (i := 14) rfl) rfl rfl rfl rfl (Nat.le_of_ble_eq_true rfl) (cs' := [_, _, _, _, _, _, _, _, _, _, _, _, _, _, _, _, _, _, _, _, _, _, _, _, _, _, _, _, _, _, _, _]) rfl dX4_copyFrom_133 ?_
  exact z_vret G rfl dX4_copyFrom_136 ⟨rfl, rfl, rfl⟩
set_option maxHeartbeats 4000000 in
set_option maxRecDepth 100000 in
theorem c_copy_f23 {l : Launch} {X : zX} (ad : Nat → Nat) (T U : Nat → Int → Int) (e0 e1 e2 e3 e4 e5 e6 e7 e8 e9 e10 e11 e12 e13 e14 e15 e16 e17 e18 e19 e20 e21 e22 : va_E) : zC l X yX4_copyFrom wsX4_copyFrom rm_X4_copyFrom ad [.ref (ad 0), .ref (ad 32)] (shE X ad (T) ++ [e0, e1, e2, e3, e4, e5, e6, e7, e8, e9, e10, e11, e12, e13, e14, e15, e16, e17, e18, e19, e20, e21, e22] ++ shE X (zo ad 32) (U)) none (shE X ad (copyT T U) ++ [e0, e1, e2, e3, e4, e5, e6, e7, e8, e9, e10, e11, e12, e13, e14, e15, e16, e17, e18, e19, e20, e21, e22] ++ shE X (zo ad 32) (U)) := by
  refine z_met (cc := cX4_copyFrom) (maxL := 2) (ret := none) (by decide) rfl (Nat.le_of_ble_eq_true rfl) ?_
  intro Z G
  change Z ad 0 0 0 [some _, some _] [] _
  refine z_aload_n G 1 rfl rfl dX4_copyFrom_0 ?_
  refine z_getf G 32 0 rfl rfl (by decide) hin_X4_copyFrom_X4 (List.mem_of_getElem? (i := 1) rfl) rfl dX4_copyFrom_1 ?_
  refine z_aload_n G 0 rfl rfl dX4_copyFrom_4 ?_
  refine z_getf G 0 0 rfl rfl (by decide) hin_X4_copyFrom_X4 (List.mem_of_getElem? (i := 1) rfl) rfl dX4_copyFrom_5 ?_
  refine z_callSP G (cs2 := [_, _, _, _, _, _, _, _, _, _, _, _, _, _, _, _, _, _, _, _, _, _, _, _, _, _, _, _, _, _, _, _, _, _, _, _, _, _, _, _, _]) [33, 1] (c_X4_copyRow (l := l) (X := X) _ 12 (U 1) (T 1) (by omega)) Y_X4_copyRow gX4_copyFrom_X4_copyRow ⟨Nat.le_of_ble_eq_true rfl, Nat.le_of_ble_eq_true rfl⟩ ⟨Nat.zero_le _, Nat.zero_le _⟩ rfl rfl (by decide) rfl rfl (Nat.le_of_ble_eq_true rfl) rfl dX4_copyFrom_8 ?_
  refine z_aload_n G 1 rfl rfl dX4_copyFrom_11 ?_
  refine z_getf G 32 1 rfl rfl (by decide) hin_X4_copyFrom_X4 (List.mem_of_getElem? (i := 2) rfl) rfl dX4_copyFrom_12 ?_
  refine z_aload_n G 0 rfl rfl dX4_copyFrom_15 ?_
  refine z_getf G 0 1 rfl rfl (by decide) hin_X4_copyFrom_X4 (List.mem_of_getElem? (i := 2) rfl) rfl dX4_copyFrom_16 ?_
  refine z_callSP G (cs2 := [_, _, _, _, _, _, _, _, _, _, _, _, _, _, _, _, _, _, _, _, _, _, _, _, _, _, _, _, _, _, _, _, _, _, _, _, _, _, _, _, _]) [34, 2] (c_X4_copyRow (l := l) (X := X) _ 12 (U 2) (T 2) (by omega)) Y_X4_copyRow gX4_copyFrom_X4_copyRow ⟨Nat.le_of_ble_eq_true rfl, Nat.le_of_ble_eq_true rfl⟩ ⟨Nat.zero_le _, Nat.zero_le _⟩ rfl rfl (by decide) rfl rfl (Nat.le_of_ble_eq_true rfl) rfl dX4_copyFrom_19 ?_
  refine z_aload_n G 1 rfl rfl dX4_copyFrom_22 ?_
  refine z_getf G 32 2 rfl rfl (by decide) hin_X4_copyFrom_X4 (List.mem_of_getElem? (i := 3) rfl) rfl dX4_copyFrom_23 ?_
  refine z_aload_n G 0 rfl rfl dX4_copyFrom_26 ?_
  refine z_getf G 0 2 rfl rfl (by decide) hin_X4_copyFrom_X4 (List.mem_of_getElem? (i := 3) rfl) rfl dX4_copyFrom_27 ?_
  refine z_callSP G (cs2 := [_, _, _, _, _, _, _, _, _, _, _, _, _, _, _, _, _, _, _, _, _, _, _, _, _, _, _, _, _, _, _, _, _, _, _, _, _, _, _, _, _]) [35, 3] (c_X4_copyRow (l := l) (X := X) _ 12 (U 3) (T 3) (by omega)) Y_X4_copyRow gX4_copyFrom_X4_copyRow ⟨Nat.le_of_ble_eq_true rfl, Nat.le_of_ble_eq_true rfl⟩ ⟨Nat.zero_le _, Nat.zero_le _⟩ rfl rfl (by decide) rfl rfl (Nat.le_of_ble_eq_true rfl) rfl dX4_copyFrom_30 ?_
  refine z_aload_n G 1 rfl rfl dX4_copyFrom_33 ?_
  refine z_getf G 32 3 rfl rfl (by decide) hin_X4_copyFrom_X4 (List.mem_of_getElem? (i := 4) rfl) rfl dX4_copyFrom_34 ?_
  refine z_aload_n G 0 rfl rfl dX4_copyFrom_37 ?_
  refine z_getf G 0 3 rfl rfl (by decide) hin_X4_copyFrom_X4 (List.mem_of_getElem? (i := 4) rfl) rfl dX4_copyFrom_38 ?_
  refine z_callSP G (cs2 := [_, _, _, _, _, _, _, _, _, _, _, _, _, _, _, _, _, _, _, _, _, _, _, _, _, _, _, _, _, _, _, _, _, _, _, _, _, _, _, _, _]) [36, 4] (c_X4_copyRow (l := l) (X := X) _ 12 (U 4) (T 4) (by omega)) Y_X4_copyRow gX4_copyFrom_X4_copyRow ⟨Nat.le_of_ble_eq_true rfl, Nat.le_of_ble_eq_true rfl⟩ ⟨Nat.zero_le _, Nat.zero_le _⟩ rfl rfl (by decide) rfl rfl (Nat.le_of_ble_eq_true rfl) rfl dX4_copyFrom_41 ?_
  refine z_aload_n G 0 rfl rfl dX4_copyFrom_44 ?_
  refine z_aload_n G 1 rfl rfl dX4_copyFrom_45 ?_
  refine z_getf G 32 4 rfl rfl (by decide) hin_X4_copyFrom_X4 (List.mem_of_getElem? (i := 5) rfl) rfl dX4_copyFrom_46 ?_
  refine z_putf G 0 4 rfl rfl (by decide) hin_X4_copyFrom_X4 tyX4 tyX4_ok nmX4 (List.mem_of_getElem? (i := 5) rfl) rfl rfl rfl rfl (Nat.le_of_ble_eq_true rfl) (cs' := [_, _, _, _, _, _, _, _, _, _, _, _, _, _, _, _, _, _, _, _, _, _, _, _, _, _, _, _, _, _, _, _, _, _, _, _, _, _, _, _, _]) rfl dX4_copyFrom_49 ?_
  refine z_aload_n G 1 rfl rfl dX4_copyFrom_52 ?_
  refine z_getf G 32 5 rfl rfl (by decide) hin_X4_copyFrom_X4 (List.mem_of_getElem? (i := 6) rfl) rfl dX4_copyFrom_53 ?_
  refine z_aload_n G 0 rfl rfl dX4_copyFrom_56 ?_
  refine z_getf G 0 5 rfl rfl (by decide) hin_X4_copyFrom_X4 (List.mem_of_getElem? (i := 6) rfl) rfl dX4_copyFrom_57 ?_
  refine z_callSP G (cs2 := [_, _, _, _, _, _, _, _, _, _, _, _, _, _, _, _, _, _, _, _, _, _, _, _, _, _, _, _, _, _, _, _, _, _, _, _, _, _, _, _, _]) [37, 5] (c_X4_copyRow (l := l) (X := X) _ 4 (U 5) (T 5) (by omega)) Y_X4_copyRow gX4_copyFrom_X4_copyRow ⟨Nat.le_of_ble_eq_true rfl, Nat.le_of_ble_eq_true rfl⟩ ⟨Nat.zero_le _, Nat.zero_le _⟩ rfl rfl (by decide) rfl rfl (Nat.le_of_ble_eq_true rfl) rfl dX4_copyFrom_60 ?_
  refine z_aload_n G 0 rfl rfl dX4_copyFrom_63 ?_
  refine z_aload_n G 1 rfl rfl dX4_copyFrom_64 ?_
  refine z_getf G 32 6 rfl rfl (by decide) hin_X4_copyFrom_X4 (List.mem_of_getElem? (i := 7) rfl) rfl dX4_copyFrom_65 ?_
  refine z_putf G 0 6 rfl rfl (by decide) hin_X4_copyFrom_X4 tyX4 tyX4_ok nmX4 (List.mem_of_getElem? (i := 7) rfl) rfl rfl rfl rfl (Nat.le_of_ble_eq_true rfl) (cs' := [_, _, _, _, _, _, _, _, _, _, _, _, _, _, _, _, _, _, _, _, _, _, _, _, _, _, _, _, _, _, _, _, _, _, _, _, _, _, _, _, _]) rfl dX4_copyFrom_68 ?_
  refine z_aload_n G 1 rfl rfl dX4_copyFrom_71 ?_
  refine z_getf G 32 7 rfl rfl (by decide) hin_X4_copyFrom_X4 (List.mem_of_getElem? (i := 8) rfl) rfl dX4_copyFrom_72 ?_
  refine z_aload_n G 0 rfl rfl dX4_copyFrom_75 ?_
  refine z_getf G 0 7 rfl rfl (by decide) hin_X4_copyFrom_X4 (List.mem_of_getElem? (i := 8) rfl) rfl dX4_copyFrom_76 ?_
  refine z_callSP G (cs2 := [_, _, _, _, _, _, _, _, _, _, _, _, _, _, _, _, _, _, _, _, _, _, _, _, _, _, _, _, _, _, _, _, _, _, _, _, _, _, _, _, _]) [38, 6] (c_X4_copyRow (l := l) (X := X) _ 4 (U 6) (T 6) (by omega)) Y_X4_copyRow gX4_copyFrom_X4_copyRow ⟨Nat.le_of_ble_eq_true rfl, Nat.le_of_ble_eq_true rfl⟩ ⟨Nat.zero_le _, Nat.zero_le _⟩ rfl rfl (by decide) rfl rfl (Nat.le_of_ble_eq_true rfl) rfl dX4_copyFrom_79 ?_
  refine z_aload_n G 0 rfl rfl dX4_copyFrom_82 ?_
  refine z_aload_n G 1 rfl rfl dX4_copyFrom_83 ?_
  refine z_getf G 32 8 rfl rfl (by decide) hin_X4_copyFrom_X4 (List.mem_of_getElem? (i := 9) rfl) rfl dX4_copyFrom_84 ?_
  refine z_putf G 0 8 rfl rfl (by decide) hin_X4_copyFrom_X4 tyX4 tyX4_ok nmX4 (List.mem_of_getElem? (i := 9) rfl) rfl rfl rfl rfl (Nat.le_of_ble_eq_true rfl) (cs' := [_, _, _, _, _, _, _, _, _, _, _, _, _, _, _, _, _, _, _, _, _, _, _, _, _, _, _, _, _, _, _, _, _, _, _, _, _, _, _, _, _]) rfl dX4_copyFrom_87 ?_
  refine z_aload_n G 0 rfl rfl dX4_copyFrom_90 ?_
  refine z_aload_n G 1 rfl rfl dX4_copyFrom_91 ?_
  refine z_getf G 32 9 rfl rfl (by decide) hin_X4_copyFrom_X4 (List.mem_of_getElem? (i := 10) rfl) rfl dX4_copyFrom_92 ?_
  refine z_putf G 0 9 rfl rfl (by decide) hin_X4_copyFrom_X4 tyX4 tyX4_ok nmX4 (List.mem_of_getElem? (i := 10) rfl) rfl rfl rfl rfl (Nat.le_of_ble_eq_true rfl) (cs' := [_, _, _, _, _, _, _, _, _, _, _, _, _, _, _, _, _, _, _, _, _, _, _, _, _, _, _, _, _, _, _, _, _, _, _, _, _, _, _, _, _]) rfl dX4_copyFrom_95 ?_
  refine z_aload_n G 0 rfl rfl dX4_copyFrom_98 ?_
  refine z_aload_n G 1 rfl rfl dX4_copyFrom_99 ?_
  refine z_getf G 32 10 rfl rfl (by decide) hin_X4_copyFrom_X4 (List.mem_of_getElem? (i := 11) rfl) rfl dX4_copyFrom_100 ?_
  refine z_putf G 0 10 rfl rfl (by decide) hin_X4_copyFrom_X4 tyX4 tyX4_ok nmX4 (List.mem_of_getElem? (i := 11) rfl) rfl rfl rfl rfl (Nat.le_of_ble_eq_true rfl) (cs' := [_, _, _, _, _, _, _, _, _, _, _, _, _, _, _, _, _, _, _, _, _, _, _, _, _, _, _, _, _, _, _, _, _, _, _, _, _, _, _, _, _]) rfl dX4_copyFrom_103 ?_
  refine z_aload_n G 1 rfl rfl dX4_copyFrom_106 ?_
  refine z_getf G 32 11 rfl rfl (by decide) hin_X4_copyFrom_X4 (List.mem_of_getElem? (i := 12) rfl) rfl dX4_copyFrom_107 ?_
  refine z_aload_n G 0 rfl rfl dX4_copyFrom_110 ?_
  refine z_getf G 0 11 rfl rfl (by decide) hin_X4_copyFrom_X4 (List.mem_of_getElem? (i := 12) rfl) rfl dX4_copyFrom_111 ?_
  refine z_callSP G (cs2 := [_, _, _, _, _, _, _, _, _, _, _, _, _, _, _, _, _, _, _, _, _, _, _, _, _, _, _, _, _, _, _, _, _, _, _, _, _, _, _, _, _]) [39, 7] (c_X4_copyRow (l := l) (X := X) _ 6 (U 7) (T 7) (by omega)) Y_X4_copyRow gX4_copyFrom_X4_copyRow ⟨Nat.le_of_ble_eq_true rfl, Nat.le_of_ble_eq_true rfl⟩ ⟨Nat.zero_le _, Nat.zero_le _⟩ rfl rfl (by decide) rfl rfl (Nat.le_of_ble_eq_true rfl) rfl dX4_copyFrom_114 ?_
  refine z_aload_n G 1 rfl rfl dX4_copyFrom_117 ?_
  refine z_getf G 32 12 rfl rfl (by decide) hin_X4_copyFrom_X4 (List.mem_of_getElem? (i := 13) rfl) rfl dX4_copyFrom_118 ?_
  refine z_aload_n G 0 rfl rfl dX4_copyFrom_121 ?_
  refine z_getf G 0 12 rfl rfl (by decide) hin_X4_copyFrom_X4 (List.mem_of_getElem? (i := 13) rfl) rfl dX4_copyFrom_122 ?_
  refine z_callSP G (cs2 := [_, _, _, _, _, _, _, _, _, _, _, _, _, _, _, _, _, _, _, _, _, _, _, _, _, _, _, _, _, _, _, _, _, _, _, _, _, _, _, _, _]) [40, 8] (c_X4_copyRow (l := l) (X := X) _ 6 (U 8) (T 8) (by omega)) Y_X4_copyRow gX4_copyFrom_X4_copyRow ⟨Nat.le_of_ble_eq_true rfl, Nat.le_of_ble_eq_true rfl⟩ ⟨Nat.zero_le _, Nat.zero_le _⟩ rfl rfl (by decide) rfl rfl (Nat.le_of_ble_eq_true rfl) rfl dX4_copyFrom_125 ?_
  refine z_aload_n G 0 rfl rfl dX4_copyFrom_128 ?_
  refine z_aload_n G 1 rfl rfl dX4_copyFrom_129 ?_
  refine z_getf G 32 13 rfl rfl (by decide) hin_X4_copyFrom_X4 (List.mem_of_getElem? (i := 14) rfl) rfl dX4_copyFrom_130 ?_
  refine z_putf G 0 13 rfl rfl (by decide) hin_X4_copyFrom_X4 tyX4 tyX4_ok nmX4 (List.mem_of_getElem? (i := 14) rfl) rfl rfl rfl rfl (Nat.le_of_ble_eq_true rfl) (cs' := [_, _, _, _, _, _, _, _, _, _, _, _, _, _, _, _, _, _, _, _, _, _, _, _, _, _, _, _, _, _, _, _, _, _, _, _, _, _, _, _, _]) rfl dX4_copyFrom_133 ?_
  exact z_vret G rfl dX4_copyFrom_136 ⟨rfl, rfl, rfl⟩
abbrev rm_X5_image : Room := { frames := 2, cells := 0, slots := 0, locals := 43 }
theorem Y_X5_image : zY yX5_image wsX5_image cX5_image 3 (some .int) rm_X5_image 1 := ⟨⟨_, rfl⟩, rfl, rfl, by decide +kernel, by decide +kernel, by decide +kernel⟩
theorem hin_X5_image_X5 : ∀ w ∈ wsX50, w ∈ wsX5_image := fun _ h => List.mem_cons_of_mem _ (List.mem_append_left _ (List.mem_append_right _ h))
theorem hin_X5_image_X4 : ∀ w ∈ wsX40, w ∈ wsX5_image := fun _ h => List.mem_cons_of_mem _ (List.mem_append_right _ h)
abbrev rm_X5_from : Room := { frames := 2, cells := 0, slots := 0, locals := 43 }
theorem Y_X5_from : zY yX5_from wsX5_from cX5_from 3 (some .int) rm_X5_from 1 := ⟨⟨_, rfl⟩, rfl, rfl, by decide +kernel, by decide +kernel, by decide +kernel⟩
theorem hin_X5_from_X5 : ∀ w ∈ wsX50, w ∈ wsX5_from := fun _ h => List.mem_cons_of_mem _ (List.mem_append_left _ (List.mem_append_right _ h))
theorem hin_X5_from_X4 : ∀ w ∈ wsX40, w ∈ wsX5_from := fun _ h => List.mem_cons_of_mem _ (List.mem_append_right _ h)
abbrev rm_X5_imageN : Room := { frames := 2, cells := 9, slots := 82, locals := 43 }
theorem Y_X5_imageN : zYN yX5_image wsX5_image cX5_image 3 (some .int) rm_X5_imageN 1 9 82 := ⟨⟨_, rfl⟩, rfl, rfl, by decide +kernel, by decide +kernel, by decide +kernel⟩
set_option maxHeartbeats 4000000 in
set_option maxRecDepth 100000 in
theorem c_X5_image_bad {l : Launch} {X : zX} (ad : Nat → Nat) (P T D U : Nat → Int → Int) (F R : Int → Int) (im : Nat → Option Nat) (rest : List va_E) (i : Int) (hi : -2147483648 ≤ i ∧ i ≤ 2147483647) (hb : ¬ (0 ≤ i ∧ i < 2)) : zC l X yX5_image wsX5_image rm_X5_image ad [.ref (ad 0), vI i] (msE X ad P T D U F R im ++ rest) (some (vI (-2))) (msE X ad P T D U F (notedF R (-2)) im ++ rest) := by
  refine z_met (cc := cX5_image) (maxL := 3) (ret := (some .int)) (by decide) rfl (Nat.le_of_ble_eq_true rfl) ?_
  intro Z G
  change Z ad 0 0 0 [some _, some _, none] [] _
  have L9 : Z ad 0 0 9 [some (.ref (ad 0)), some (vI i), none] [] (msE X ad P T D U F R im ++ rest) := by
    refine z_aload_n G 0 rfl rfl dX5_image_9 ?_
    refine z_bipush G (n := (-2)) rfl dX5_image_10 ?_
    refine z_callV G (cs2 := msE X ad P T D U F (notedF R (-2)) im ++ rest) 0 (c_X5_noted (l := l) (X := X) _ _ _ _ _ _ _ R (-2) (by omega)) Y_X5_noted rfl gX5_image_X5_noted ⟨(Nat.le_of_ble_eq_true rfl), (Nat.le_of_ble_eq_true rfl)⟩ ⟨(Nat.le_of_ble_eq_true rfl), (Nat.le_of_ble_eq_true rfl)⟩ rfl rfl (Nat.le_of_ble_eq_true rfl) rfl rfl rfl rfl (Nat.le_of_ble_eq_true rfl) rfl dX5_image_12 ?_
    exact z_iret G rfl dX5_image_15 ⟨rfl, rfl, rfl⟩
  refine z_iload_n G 1 rfl rfl dX5_image_0 ?_
  refine z_if_lt G 9 (by omega) dX5_image_1 (by decide) (fun c_1 => L9) (fun c_1 => ?_)
  refine z_iload_n G 1 rfl rfl dX5_image_4 ?_
  refine z_iconst G dX5_image_5 ?_
  refine z_icmp_lt G 16 (by omega) (by omega) dX5_image_6 (by decide) (fun c_6 => absurd c_6 (by omega)) (fun c_6 => L9)
set_option maxHeartbeats 4000000 in
set_option maxRecDepth 100000 in
theorem c_X5_from_bad {l : Launch} {X : zX} (ad : Nat → Nat) (P T D U : Nat → Int → Int) (F R : Int → Int) (im : Nat → Option Nat) (rest : List va_E) (i : Int) (hi : -2147483648 ≤ i ∧ i ≤ 2147483647) (hb : ¬ (0 ≤ i ∧ i < 2)) : zC l X yX5_from wsX5_from rm_X5_from ad [.ref (ad 0), vI i] (msE X ad P T D U F R im ++ rest) (some (vI (-2))) (msE X ad P T D U F (notedF R (-2)) im ++ rest) := by
  refine z_met (cc := cX5_from) (maxL := 3) (ret := (some .int)) (by decide) rfl (Nat.le_of_ble_eq_true rfl) ?_
  intro Z G
  change Z ad 0 0 0 [some _, some _, none] [] _
  have L9 : Z ad 0 0 9 [some (.ref (ad 0)), some (vI i), none] [] (msE X ad P T D U F R im ++ rest) := by
    refine z_aload_n G 0 rfl rfl dX5_from_9 ?_
    refine z_bipush G (n := (-2)) rfl dX5_from_10 ?_
    refine z_callV G (cs2 := msE X ad P T D U F (notedF R (-2)) im ++ rest) 0 (c_X5_noted (l := l) (X := X) _ _ _ _ _ _ _ R (-2) (by omega)) Y_X5_noted rfl gX5_from_X5_noted ⟨(Nat.le_of_ble_eq_true rfl), (Nat.le_of_ble_eq_true rfl)⟩ ⟨(Nat.le_of_ble_eq_true rfl), (Nat.le_of_ble_eq_true rfl)⟩ rfl rfl (Nat.le_of_ble_eq_true rfl) rfl rfl rfl rfl (Nat.le_of_ble_eq_true rfl) rfl dX5_from_12 ?_
    exact z_iret G rfl dX5_from_15 ⟨rfl, rfl, rfl⟩
  refine z_iload_n G 1 rfl rfl dX5_from_0 ?_
  refine z_if_lt G 9 (by omega) dX5_from_1 (by decide) (fun c_1 => L9) (fun c_1 => ?_)
  refine z_iload_n G 1 rfl rfl dX5_from_4 ?_
  refine z_iconst G dX5_from_5 ?_
  refine z_icmp_lt G 16 (by omega) (by omega) dX5_from_6 (by decide) (fun c_6 => absurd c_6 (by omega)) (fun c_6 => L9)
set_option maxHeartbeats 4000000 in
set_option maxRecDepth 100000 in
theorem c_X5_image_f0 {l : Launch} {X : zX} (ad : Nat → Nat) (P T D U : Nat → Int → Int) (F R : Int → Int) (im : Nat → Option Nat) (V : Nat → Int → Int) (rest : List va_E) (i : Int) (hi : 0 ≤ i ∧ i < 2) (him : im i.toNat = some (ad 30)) : zC l X yX5_image wsX5_image rm_X5_image ad [.ref (ad 0), vI i] (msE X ad P T D U F R im ++ shE X (zo ad 30) (V) ++ rest) (some (vI (1))) (msE X ad P T D U F R im ++ shE X (zo ad 30) (copyT V T) ++ rest) := by
  refine z_met (cc := cX5_image) (maxL := 3) (ret := (some .int)) (by decide) rfl (Nat.le_of_ble_eq_true rfl) ?_
  intro Z G
  change Z ad 0 0 0 [some _, some _, none] [] _
  refine z_iload_n G 1 rfl rfl dX5_image_0 ?_
  refine z_if_lt G 9 (by omega) dX5_image_1 (by decide) (fun c_1 => absurd c_1 (by omega)) (fun c_1 => ?_)
  refine z_iload_n G 1 rfl rfl dX5_image_4 ?_
  refine z_iconst G dX5_image_5 ?_
  refine z_icmp_lt G 16 (by omega) (by omega) dX5_image_6 (by decide) (fun c_6 => ?_) (fun c_6 => absurd c_6 (by omega))
  refine z_aload_n G 0 rfl rfl dX5_image_16 ?_
  refine z_getf G 0 2 rfl rfl (by decide) hin_X5_image_X5 (List.mem_of_getElem? (i := 1) rfl) rfl dX5_image_17 ?_
  refine z_iload_n G 1 rfl rfl dX5_image_20 ?_
  refine z_aldqN G 29 rfl (by omega) dX5_image_21 ?_
  rw [him]
  change Z ad 0 0 22 _ (.ref (ad 30) :: _) _
  refine z_astore_n G 2 rfl (lv' := [some _, some _, some _]) (by decide) rfl rfl dX5_image_22 ?_
  refine z_aload_n G 2 rfl rfl dX5_image_23 ?_
  refine z_nonnull G 42 dX5_image_24 (by decide) ?_
  refine z_aload_n G 2 rfl rfl dX5_image_42 ?_
  refine z_aload_n G 0 rfl rfl dX5_image_43 ?_
  refine z_getf G 0 0 rfl rfl (by decide) hin_X5_image_X5 (List.mem_of_getElem? (i := 5) rfl) rfl dX5_image_44 ?_
  refine z_callVq G (cs2 := msE X ad P T D U F R im ++ shE X (zo ad 30) (copyT V T) ++ rest) 7 23 (c_copy_b14 (l := l) (X := X) _ V T _ _ _ _ _ _ _ _ _ _ _ _ _ _) Y_X4_copyFrom rfl gX5_image_X4_copyFrom ⟨(Nat.le_of_ble_eq_true rfl), (Nat.le_of_ble_eq_true rfl)⟩ ⟨(Nat.le_of_ble_eq_true rfl), (Nat.le_of_ble_eq_true rfl)⟩ rfl rfl (Nat.le_of_ble_eq_true rfl) rfl rfl rfl rfl (Nat.le_of_ble_eq_true rfl) rfl dX5_image_47 ?_
  refine z_iconst G dX5_image_50 ?_
  exact z_iret G rfl dX5_image_51 ⟨rfl, rfl, rfl⟩
set_option maxHeartbeats 4000000 in
set_option maxRecDepth 100000 in
theorem c_X5_from_f0 {l : Launch} {X : zX} (ad : Nat → Nat) (P T D U : Nat → Int → Int) (F R : Int → Int) (im : Nat → Option Nat) (V : Nat → Int → Int) (rest : List va_E) (i : Int) (hi : 0 ≤ i ∧ i < 2) (him : im i.toNat = some (ad 30)) : zC l X yX5_from wsX5_from rm_X5_from ad [.ref (ad 0), vI i] (msE X ad P T D U F R im ++ shE X (zo ad 30) (V) ++ rest) (some (vI (1))) (msE X ad P (copyT T V) D U F R im ++ shE X (zo ad 30) (V) ++ rest) := by
  refine z_met (cc := cX5_from) (maxL := 3) (ret := (some .int)) (by decide) rfl (Nat.le_of_ble_eq_true rfl) ?_
  intro Z G
  change Z ad 0 0 0 [some _, some _, none] [] _
  refine z_iload_n G 1 rfl rfl dX5_from_0 ?_
  refine z_if_lt G 9 (by omega) dX5_from_1 (by decide) (fun c_1 => absurd c_1 (by omega)) (fun c_1 => ?_)
  refine z_iload_n G 1 rfl rfl dX5_from_4 ?_
  refine z_iconst G dX5_from_5 ?_
  refine z_icmp_lt G 16 (by omega) (by omega) dX5_from_6 (by decide) (fun c_6 => ?_) (fun c_6 => absurd c_6 (by omega))
  refine z_aload_n G 0 rfl rfl dX5_from_16 ?_
  refine z_getf G 0 2 rfl rfl (by decide) hin_X5_from_X5 (List.mem_of_getElem? (i := 1) rfl) rfl dX5_from_17 ?_
  refine z_iload_n G 1 rfl rfl dX5_from_20 ?_
  refine z_aldqN G 29 rfl (by omega) dX5_from_21 ?_
  rw [him]
  change Z ad 0 0 22 _ (.ref (ad 30) :: _) _
  refine z_astore_n G 2 rfl (lv' := [some _, some _, some _]) (by decide) rfl rfl dX5_from_22 ?_
  refine z_aload_n G 2 rfl rfl dX5_from_23 ?_
  refine z_nonnull G 34 dX5_from_24 (by decide) ?_
  refine z_aload_n G 0 rfl rfl dX5_from_34 ?_
  refine z_getf G 0 0 rfl rfl (by decide) hin_X5_from_X5 (List.mem_of_getElem? (i := 2) rfl) rfl dX5_from_35 ?_
  refine z_aload_n G 2 rfl rfl dX5_from_38 ?_
  refine z_callV G (cs2 := msE X ad P (copyT T V) D U F R im ++ shE X (zo ad 30) (V) ++ rest) 7 (c_copy_f14 (l := l) (X := X) _ T V _ _ _ _ _ _ _ _ _ _ _ _ _ _) Y_X4_copyFrom rfl gX5_from_X4_copyFrom ⟨(Nat.le_of_ble_eq_true rfl), (Nat.le_of_ble_eq_true rfl)⟩ ⟨(Nat.le_of_ble_eq_true rfl), (Nat.le_of_ble_eq_true rfl)⟩ rfl rfl (Nat.le_of_ble_eq_true rfl) rfl rfl rfl rfl (Nat.le_of_ble_eq_true rfl) rfl dX5_from_39 ?_
  refine z_iconst G dX5_from_42 ?_
  exact z_iret G rfl dX5_from_43 ⟨rfl, rfl, rfl⟩
set_option maxHeartbeats 4000000 in
set_option maxRecDepth 100000 in
theorem c_X5_image_f1 {l : Launch} {X : zX} (ad : Nat → Nat) (P T D U : Nat → Int → Int) (F R : Int → Int) (im : Nat → Option Nat) (V0 V : Nat → Int → Int) (i : Int) (hi : 0 ≤ i ∧ i < 2) (him : im i.toNat = some (ad 39)) : zC l X yX5_image wsX5_image rm_X5_image ad [.ref (ad 0), vI i] (msE X ad P T D U F R im ++ shE X (zo ad 30) V0 ++ shE X (zo ad 39) (V)) (some (vI (1))) (msE X ad P T D U F R im ++ shE X (zo ad 30) V0 ++ shE X (zo ad 39) (copyT V T)) := by
  refine z_met (cc := cX5_image) (maxL := 3) (ret := (some .int)) (by decide) rfl (Nat.le_of_ble_eq_true rfl) ?_
  intro Z G
  change Z ad 0 0 0 [some _, some _, none] [] _
  refine z_iload_n G 1 rfl rfl dX5_image_0 ?_
  refine z_if_lt G 9 (by omega) dX5_image_1 (by decide) (fun c_1 => absurd c_1 (by omega)) (fun c_1 => ?_)
  refine z_iload_n G 1 rfl rfl dX5_image_4 ?_
  refine z_iconst G dX5_image_5 ?_
  refine z_icmp_lt G 16 (by omega) (by omega) dX5_image_6 (by decide) (fun c_6 => ?_) (fun c_6 => absurd c_6 (by omega))
  refine z_aload_n G 0 rfl rfl dX5_image_16 ?_
  refine z_getf G 0 2 rfl rfl (by decide) hin_X5_image_X5 (List.mem_of_getElem? (i := 1) rfl) rfl dX5_image_17 ?_
  refine z_iload_n G 1 rfl rfl dX5_image_20 ?_
  refine z_aldqN G 29 rfl (by omega) dX5_image_21 ?_
  rw [him]
  change Z ad 0 0 22 _ (.ref (ad 39) :: _) _
  refine z_astore_n G 2 rfl (lv' := [some _, some _, some _]) (by decide) rfl rfl dX5_image_22 ?_
  refine z_aload_n G 2 rfl rfl dX5_image_23 ?_
  refine z_nonnull G 42 dX5_image_24 (by decide) ?_
  refine z_aload_n G 2 rfl rfl dX5_image_42 ?_
  refine z_aload_n G 0 rfl rfl dX5_image_43 ?_
  refine z_getf G 0 0 rfl rfl (by decide) hin_X5_image_X5 (List.mem_of_getElem? (i := 5) rfl) rfl dX5_image_44 ?_
  refine z_callVq G (cs2 := msE X ad P T D U F R im ++ shE X (zo ad 30) V0 ++ shE X (zo ad 39) (copyT V T)) 7 32 (c_copy_b23 (l := l) (X := X) _ V T _ _ _ _ _ _ _ _ _ _ _ _ _ _ _ _ _ _ _ _ _ _ _) Y_X4_copyFrom rfl gX5_image_X4_copyFrom ⟨(Nat.le_of_ble_eq_true rfl), (Nat.le_of_ble_eq_true rfl)⟩ ⟨(Nat.le_of_ble_eq_true rfl), (Nat.le_of_ble_eq_true rfl)⟩ rfl rfl (Nat.le_of_ble_eq_true rfl) rfl rfl rfl rfl (Nat.le_of_ble_eq_true rfl) rfl dX5_image_47 ?_
  refine z_iconst G dX5_image_50 ?_
  exact z_iret G rfl dX5_image_51 ⟨rfl, rfl, rfl⟩
set_option maxHeartbeats 4000000 in
set_option maxRecDepth 100000 in
theorem c_X5_from_f1 {l : Launch} {X : zX} (ad : Nat → Nat) (P T D U : Nat → Int → Int) (F R : Int → Int) (im : Nat → Option Nat) (V0 V : Nat → Int → Int) (i : Int) (hi : 0 ≤ i ∧ i < 2) (him : im i.toNat = some (ad 39)) : zC l X yX5_from wsX5_from rm_X5_from ad [.ref (ad 0), vI i] (msE X ad P T D U F R im ++ shE X (zo ad 30) V0 ++ shE X (zo ad 39) (V)) (some (vI (1))) (msE X ad P (copyT T V) D U F R im ++ shE X (zo ad 30) V0 ++ shE X (zo ad 39) (V)) := by
  refine z_met (cc := cX5_from) (maxL := 3) (ret := (some .int)) (by decide) rfl (Nat.le_of_ble_eq_true rfl) ?_
  intro Z G
  change Z ad 0 0 0 [some _, some _, none] [] _
  refine z_iload_n G 1 rfl rfl dX5_from_0 ?_
  refine z_if_lt G 9 (by omega) dX5_from_1 (by decide) (fun c_1 => absurd c_1 (by omega)) (fun c_1 => ?_)
  refine z_iload_n G 1 rfl rfl dX5_from_4 ?_
  refine z_iconst G dX5_from_5 ?_
  refine z_icmp_lt G 16 (by omega) (by omega) dX5_from_6 (by decide) (fun c_6 => ?_) (fun c_6 => absurd c_6 (by omega))
  refine z_aload_n G 0 rfl rfl dX5_from_16 ?_
  refine z_getf G 0 2 rfl rfl (by decide) hin_X5_from_X5 (List.mem_of_getElem? (i := 1) rfl) rfl dX5_from_17 ?_
  refine z_iload_n G 1 rfl rfl dX5_from_20 ?_
  refine z_aldqN G 29 rfl (by omega) dX5_from_21 ?_
  rw [him]
  change Z ad 0 0 22 _ (.ref (ad 39) :: _) _
  refine z_astore_n G 2 rfl (lv' := [some _, some _, some _]) (by decide) rfl rfl dX5_from_22 ?_
  refine z_aload_n G 2 rfl rfl dX5_from_23 ?_
  refine z_nonnull G 34 dX5_from_24 (by decide) ?_
  refine z_aload_n G 0 rfl rfl dX5_from_34 ?_
  refine z_getf G 0 0 rfl rfl (by decide) hin_X5_from_X5 (List.mem_of_getElem? (i := 2) rfl) rfl dX5_from_35 ?_
  refine z_aload_n G 2 rfl rfl dX5_from_38 ?_
  refine z_callV G (cs2 := msE X ad P (copyT T V) D U F R im ++ shE X (zo ad 30) V0 ++ shE X (zo ad 39) (V)) 7 (c_copy_f23 (l := l) (X := X) _ T V _ _ _ _ _ _ _ _ _ _ _ _ _ _ _ _ _ _ _ _ _ _ _) Y_X4_copyFrom rfl gX5_from_X4_copyFrom ⟨(Nat.le_of_ble_eq_true rfl), (Nat.le_of_ble_eq_true rfl)⟩ ⟨(Nat.le_of_ble_eq_true rfl), (Nat.le_of_ble_eq_true rfl)⟩ rfl rfl (Nat.le_of_ble_eq_true rfl) rfl rfl rfl rfl (Nat.le_of_ble_eq_true rfl) rfl dX5_from_39 ?_
  refine z_iconst G dX5_from_42 ?_
  exact z_iret G rfl dX5_from_43 ⟨rfl, rfl, rfl⟩
set_option maxHeartbeats 4000000 in
set_option maxRecDepth 100000 in
theorem c_X5_from_no {l : Launch} {X : zX} (ad : Nat → Nat) (P T D U : Nat → Int → Int) (F R : Int → Int) (im : Nat → Option Nat) (rest : List va_E) (i : Int) (hi : 0 ≤ i ∧ i < 2) (him : im i.toNat = none) : zC l X yX5_from wsX5_from rm_X5_from ad [.ref (ad 0), vI i] (msE X ad P T D U F R im ++ rest) (some (vI (-3))) (msE X ad P T D U F (notedF R (-3)) im ++ rest) := by
  refine z_met (cc := cX5_from) (maxL := 3) (ret := (some .int)) (by decide) rfl (Nat.le_of_ble_eq_true rfl) ?_
  intro Z G
  change Z ad 0 0 0 [some _, some _, none] [] _
  refine z_iload_n G 1 rfl rfl dX5_from_0 ?_
  refine z_if_lt G 9 (by omega) dX5_from_1 (by decide) (fun c_1 => absurd c_1 (by omega)) (fun c_1 => ?_)
  refine z_iload_n G 1 rfl rfl dX5_from_4 ?_
  refine z_iconst G dX5_from_5 ?_
  refine z_icmp_lt G 16 (by omega) (by omega) dX5_from_6 (by decide) (fun c_6 => ?_) (fun c_6 => absurd c_6 (by omega))
  refine z_aload_n G 0 rfl rfl dX5_from_16 ?_
  refine z_getf G 0 2 rfl rfl (by decide) hin_X5_from_X5 (List.mem_of_getElem? (i := 1) rfl) rfl dX5_from_17 ?_
  refine z_iload_n G 1 rfl rfl dX5_from_20 ?_
  refine z_aldqN G 29 rfl (by omega) dX5_from_21 ?_
  rw [him]
  change Z ad 0 0 22 _ (.null :: _) _
  refine z_astoreN G 2 rfl (lv' := [some _, some _, some _]) (by decide) rfl rfl dX5_from_22 ?_
  refine z_aloadN G 2 rfl rfl dX5_from_23 ?_
  refine z_nonnullN G dX5_from_24 ?_
  refine z_aload_n G 0 rfl rfl dX5_from_27 ?_
  refine z_bipush G (n := (-3)) rfl dX5_from_28 ?_
  refine z_callV G (cs2 := msE X ad P T D U F (notedF R (-3)) im ++ rest) 0 (c_X5_noted (l := l) (X := X) _ _ _ _ _ _ _ R (-3) (by omega)) Y_X5_noted rfl gX5_from_X5_noted ⟨(Nat.le_of_ble_eq_true rfl), (Nat.le_of_ble_eq_true rfl)⟩ ⟨(Nat.le_of_ble_eq_true rfl), (Nat.le_of_ble_eq_true rfl)⟩ rfl rfl (Nat.le_of_ble_eq_true rfl) rfl rfl rfl rfl (Nat.le_of_ble_eq_true rfl) rfl dX5_from_30 ?_
  exact z_iret G rfl dX5_from_33 ⟨rfl, rfl, rfl⟩
set_option maxHeartbeats 4000000 in
set_option maxRecDepth 100000 in
theorem c_X5_image_n0 {l : Launch} {X : zX} (ad : Nat → Nat) (P T D U : Nat → Int → Int) (F R : Int → Int) (im : Nat → Option Nat) (i : Int) (hi : 0 ≤ i ∧ i < 2) (him : im i.toNat = none) : zCN l X yX5_image wsX5_image rm_X5_imageN ad [.ref (ad 0), vI i] (msE X ad P T D U F R im) 9 82 (fun _ => True) (fun o a c => o = some (vI 1) ∧ c = msE X a P T D U F R (va_up im i.toNat (some (a 30))) ++ shE X (zo a 30) (copyT (startT Z0) T)) := by
  refine z_metN (cc := cX5_image) (maxL := 3) (ret := (some .int)) (by decide) rfl (Nat.le_of_ble_eq_true rfl) ?_
  intro Z G
  change Z ad 0 0 0 [some _, some _, none] [] _
  refine z_iload_n G 1 rfl rfl dX5_image_0 ?_
  refine z_if_lt G 9 (by omega) dX5_image_1 (by decide) (fun c_1 => absurd c_1 (by omega)) (fun c_1 => ?_)
  refine z_iload_n G 1 rfl rfl dX5_image_4 ?_
  refine z_iconst G dX5_image_5 ?_
  refine z_icmp_lt G 16 (by omega) (by omega) dX5_image_6 (by decide) (fun c_6 => ?_) (fun c_6 => absurd c_6 (by omega))
  refine z_aload_n G 0 rfl rfl dX5_image_16 ?_
  refine z_getf G 0 2 rfl rfl (by decide) hin_X5_image_X5 (List.mem_of_getElem? (i := 1) rfl) rfl dX5_image_17 ?_
  refine z_iload_n G 1 rfl rfl dX5_image_20 ?_
  refine z_aldqN G 29 rfl (by omega) dX5_image_21 ?_
  rw [him]
  change Z ad 0 0 22 _ (.null :: _) _
  refine z_astoreN G 2 rfl (lv' := [some _, some _, some _]) (by decide) rfl rfl dX5_image_22 ?_
  refine z_aloadN G 2 rfl rfl dX5_image_23 ?_
  refine z_nonnullN G dX5_image_24 ?_
  refine z_new G hin_X5_image_X4 tyX4 tyX4_ok (List.mem_of_getElem? (i := 2) rfl) (List.mem_of_getElem? (i := 3) rfl) (List.mem_of_getElem? (i := 4) rfl) (ci := 3) rfl [.null, .null, .null, .null, vI 0, .null, vI 0, .null, vI 0, vI 0, vI 0, .null, .null, vI 0] (by intro j hj; have hc : j = 0 ∨ j = 1 ∨ j = 2 ∨ j = 3 ∨ j = 4 ∨ j = 5 ∨ j = 6 ∨ j = 7 ∨ j = 8 ∨ j = 9 ∨ j = 10 ∨ j = 11 ∨ j = 12 ∨ j = 13 := (by omega); rcases hc with rfl | rfl | rfl | rfl | rfl | rfl | rfl | rfl | rfl | rfl | rfl | rfl | rfl | rfl <;> rfl) (Nat.le_of_ble_eq_true rfl) (Nat.le_of_ble_eq_true rfl) dX5_image_27 (fun q => ?_)
  refine z_dup G rfl dX5_image_30 ?_
  refine z_callI G 30 (c_X4_init (l := l) (X := X) _) Y_X4_init gX5_image_X4_init (List.mem_of_getElem? (i := 4) rfl) (List.mem_of_getElem? (i := 14) rfl) (List.mem_of_getElem? (i := 15) rfl) rfl ⟨(Nat.le_of_ble_eq_true rfl), (Nat.le_of_ble_eq_true rfl)⟩ ⟨(Nat.le_of_ble_eq_true rfl), (Nat.le_of_ble_eq_true rfl)⟩ rfl rfl (Nat.le_of_ble_eq_true rfl) rfl (Nat.le_of_ble_eq_true rfl) dX5_image_31 (fun ov a1 c1 hp had hlen => ?_)
  obtain ⟨rfl, rfl⟩ := hp
  have e1 : a1 0 = q := had 0 (Nat.le_of_ble_eq_true rfl)
  subst e1
  change Z (adj (adx ad 30 (a1 0)) 30 a1) _ _ 34 [some (.ref ((adj (adx ad 30 (a1 0)) 30 a1) 0)), some (vI i), some .null] [.ref ((adj (adx ad 30 (a1 0)) 30 a1) 30)] (msE X (adj (adx ad 30 (a1 0)) 30 a1) P T D U F R im ++ shE X (zo (adj (adx ad 30 (a1 0)) 30 a1) 30) (startT Z0))
  have hz : ∀ k : Nat, k < 30 → (adj (adx ad 30 (a1 0)) 30 a1) k = ad k := fun k hk => by
    unfold adj
    rw [if_pos hk]
    unfold adx
    rw [if_neg (by omega)]
  generalize (adj (adx ad 30 (a1 0)) 30 a1) = A at hz ⊢
  refine z_astore_n G 2 rfl (lv' := [some _, some _, some _]) (by decide) rfl rfl dX5_image_34 ?_
  refine z_aload_n G 0 rfl rfl dX5_image_35 ?_
  refine z_getf G 0 2 rfl rfl (by decide) hin_X5_image_X5 (List.mem_of_getElem? (i := 1) rfl) rfl dX5_image_36 ?_
  refine z_iload_n G 1 rfl rfl dX5_image_39 ?_
  refine z_aload_n G 2 rfl rfl dX5_image_40 ?_
  refine z_astq G 29 30 rfl rfl hi (cs' := msE X A P T D U F R (va_up im i.toNat (some (A 30))) ++ shE X (zo A 30) (startT Z0)) rfl dX5_image_41 ?_
  refine z_aload_n G 2 rfl rfl dX5_image_42 ?_
  refine z_aload_n G 0 rfl rfl dX5_image_43 ?_
  refine z_getf G 0 0 rfl rfl (by decide) hin_X5_image_X5 (List.mem_of_getElem? (i := 5) rfl) rfl dX5_image_44 ?_
  refine z_callVq G (cs2 := msE X A P T D U F R (va_up im i.toNat (some (A 30))) ++ shE X (zo A 30) (copyT (startT Z0) T)) 7 23 (c_copy_b14 (l := l) (X := X) _ (startT Z0) T _ _ _ _ _ _ _ _ _ _ _ _ _ _) Y_X4_copyFrom rfl gX5_image_X4_copyFrom ⟨(Nat.le_of_ble_eq_true rfl), (Nat.le_of_ble_eq_true rfl)⟩ ⟨(Nat.le_of_ble_eq_true rfl), (Nat.le_of_ble_eq_true rfl)⟩ rfl rfl (Nat.le_of_ble_eq_true rfl) rfl rfl rfl rfl (Nat.le_of_ble_eq_true rfl) rfl dX5_image_47 ?_
  refine z_iconst G dX5_image_50 ?_
  exact z_iret G rfl dX5_image_51 ⟨⟨rfl, rfl⟩, hz, (Nat.le_of_ble_eq_true rfl)⟩
set_option maxHeartbeats 4000000 in
set_option maxRecDepth 100000 in
theorem c_X5_image_n1 {l : Launch} {X : zX} (ad : Nat → Nat) (P T D U : Nat → Int → Int) (F R : Int → Int) (im : Nat → Option Nat) (V0 : Nat → Int → Int) (i : Int) (hi : 0 ≤ i ∧ i < 2) (him : im i.toNat = none) : zCN l X yX5_image wsX5_image rm_X5_imageN ad [.ref (ad 0), vI i] (msE X ad P T D U F R im ++ shE X (zo ad 30) V0) 9 82 (fun _ => True) (fun o a c => o = some (vI 1) ∧ c = msE X a P T D U F R (va_up im i.toNat (some (a 39))) ++ shE X (zo a 30) V0 ++ shE X (zo a 39) (copyT (startT Z0) T)) := by
  refine z_metN (cc := cX5_image) (maxL := 3) (ret := (some .int)) (by decide) rfl (Nat.le_of_ble_eq_true rfl) ?_
  intro Z G
  change Z ad 0 0 0 [some _, some _, none] [] _
  refine z_iload_n G 1 rfl rfl dX5_image_0 ?_
  refine z_if_lt G 9 (by omega) dX5_image_1 (by decide) (fun c_1 => absurd c_1 (by omega)) (fun c_1 => ?_)
  refine z_iload_n G 1 rfl rfl dX5_image_4 ?_
  refine z_iconst G dX5_image_5 ?_
  refine z_icmp_lt G 16 (by omega) (by omega) dX5_image_6 (by decide) (fun c_6 => ?_) (fun c_6 => absurd c_6 (by omega))
  refine z_aload_n G 0 rfl rfl dX5_image_16 ?_
  refine z_getf G 0 2 rfl rfl (by decide) hin_X5_image_X5 (List.mem_of_getElem? (i := 1) rfl) rfl dX5_image_17 ?_
  refine z_iload_n G 1 rfl rfl dX5_image_20 ?_
  refine z_aldqN G 29 rfl (by omega) dX5_image_21 ?_
  rw [him]
  change Z ad 0 0 22 _ (.null :: _) _
  refine z_astoreN G 2 rfl (lv' := [some _, some _, some _]) (by decide) rfl rfl dX5_image_22 ?_
  refine z_aloadN G 2 rfl rfl dX5_image_23 ?_
  refine z_nonnullN G dX5_image_24 ?_
  refine z_new G hin_X5_image_X4 tyX4 tyX4_ok (List.mem_of_getElem? (i := 2) rfl) (List.mem_of_getElem? (i := 3) rfl) (List.mem_of_getElem? (i := 4) rfl) (ci := 3) rfl [.null, .null, .null, .null, vI 0, .null, vI 0, .null, vI 0, vI 0, vI 0, .null, .null, vI 0] (by intro j hj; have hc : j = 0 ∨ j = 1 ∨ j = 2 ∨ j = 3 ∨ j = 4 ∨ j = 5 ∨ j = 6 ∨ j = 7 ∨ j = 8 ∨ j = 9 ∨ j = 10 ∨ j = 11 ∨ j = 12 ∨ j = 13 := (by omega); rcases hc with rfl | rfl | rfl | rfl | rfl | rfl | rfl | rfl | rfl | rfl | rfl | rfl | rfl | rfl <;> rfl) (Nat.le_of_ble_eq_true rfl) (Nat.le_of_ble_eq_true rfl) dX5_image_27 (fun q => ?_)
  refine z_dup G rfl dX5_image_30 ?_
  refine z_callI G 39 (c_X4_init (l := l) (X := X) _) Y_X4_init gX5_image_X4_init (List.mem_of_getElem? (i := 4) rfl) (List.mem_of_getElem? (i := 14) rfl) (List.mem_of_getElem? (i := 15) rfl) rfl ⟨(Nat.le_of_ble_eq_true rfl), (Nat.le_of_ble_eq_true rfl)⟩ ⟨(Nat.le_of_ble_eq_true rfl), (Nat.le_of_ble_eq_true rfl)⟩ rfl rfl (Nat.le_of_ble_eq_true rfl) rfl (Nat.le_of_ble_eq_true rfl) dX5_image_31 (fun ov a1 c1 hp had hlen => ?_)
  obtain ⟨rfl, rfl⟩ := hp
  have e1 : a1 0 = q := had 0 (Nat.le_of_ble_eq_true rfl)
  subst e1
  change Z (adj (adx ad 39 (a1 0)) 39 a1) _ _ 34 [some (.ref ((adj (adx ad 39 (a1 0)) 39 a1) 0)), some (vI i), some .null] [.ref ((adj (adx ad 39 (a1 0)) 39 a1) 39)] (msE X (adj (adx ad 39 (a1 0)) 39 a1) P T D U F R im ++ shE X (zo (adj (adx ad 39 (a1 0)) 39 a1) 30) V0 ++ shE X (zo (adj (adx ad 39 (a1 0)) 39 a1) 39) (startT Z0))
  have hz : ∀ k : Nat, k < 39 → (adj (adx ad 39 (a1 0)) 39 a1) k = ad k := fun k hk => by
    unfold adj
    rw [if_pos hk]
    unfold adx
    rw [if_neg (by omega)]
  generalize (adj (adx ad 39 (a1 0)) 39 a1) = A at hz ⊢
  refine z_astore_n G 2 rfl (lv' := [some _, some _, some _]) (by decide) rfl rfl dX5_image_34 ?_
  refine z_aload_n G 0 rfl rfl dX5_image_35 ?_
  refine z_getf G 0 2 rfl rfl (by decide) hin_X5_image_X5 (List.mem_of_getElem? (i := 1) rfl) rfl dX5_image_36 ?_
  refine z_iload_n G 1 rfl rfl dX5_image_39 ?_
  refine z_aload_n G 2 rfl rfl dX5_image_40 ?_
  refine z_astq G 29 39 rfl rfl hi (cs' := msE X A P T D U F R (va_up im i.toNat (some (A 39))) ++ shE X (zo A 30) V0 ++ shE X (zo A 39) (startT Z0)) rfl dX5_image_41 ?_
  refine z_aload_n G 2 rfl rfl dX5_image_42 ?_
  refine z_aload_n G 0 rfl rfl dX5_image_43 ?_
  refine z_getf G 0 0 rfl rfl (by decide) hin_X5_image_X5 (List.mem_of_getElem? (i := 5) rfl) rfl dX5_image_44 ?_
  refine z_callVq G (cs2 := msE X A P T D U F R (va_up im i.toNat (some (A 39))) ++ shE X (zo A 30) V0 ++ shE X (zo A 39) (copyT (startT Z0) T)) 7 32 (c_copy_b23 (l := l) (X := X) _ (startT Z0) T _ _ _ _ _ _ _ _ _ _ _ _ _ _ _ _ _ _ _ _ _ _ _) Y_X4_copyFrom rfl gX5_image_X4_copyFrom ⟨(Nat.le_of_ble_eq_true rfl), (Nat.le_of_ble_eq_true rfl)⟩ ⟨(Nat.le_of_ble_eq_true rfl), (Nat.le_of_ble_eq_true rfl)⟩ rfl rfl (Nat.le_of_ble_eq_true rfl) rfl rfl rfl rfl (Nat.le_of_ble_eq_true rfl) rfl dX5_image_47 ?_
  refine z_iconst G dX5_image_50 ?_
  exact z_iret G rfl dX5_image_51 ⟨⟨rfl, rfl⟩, hz, (Nat.le_of_ble_eq_true rfl)⟩
