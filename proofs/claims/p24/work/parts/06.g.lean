section MG_06_mdl
/-! THE REFERENCE: place 0 its object, places 1 .. 49 its rows, as its fields come. -/
def rfM : Nat → Option (Option Nat) := fun j => match j with
  | 1 => some (some 1)
  | 2 => some (some 2)
  | 3 => some (some 3)
  | 4 => some (some 4)
  | 5 => some (some 5)
  | 6 => some (some 6)
  | 8 => some (some 7)
  | 10 => some (some 8)
  | 11 => some (some 9)
  | 12 => some (some 10)
  | 13 => some (some 11)
  | 14 => some (some 12)
  | 15 => some (some 13)
  | 16 => some (some 14)
  | 17 => some (some 15)
  | 19 => some (some 16)
  | 20 => some (some 17)
  | 21 => some (some 18)
  | 22 => some (some 19)
  | 43 => some (some 20)
  | 44 => some (some 21)
  | 45 => some (some 22)
  | 46 => some (some 23)
  | 47 => some (some 24)
  | 48 => some (some 25)
  | 49 => some (some 26)
  | 50 => some (some 27)
  | 51 => some (some 28)
  | 52 => some (some 29)
  | 53 => some (some 30)
  | 54 => some (some 31)
  | 55 => some (some 32)
  | 56 => some (some 33)
  | 57 => some (some 34)
  | 58 => some (some 35)
  | 59 => some (some 36)
  | 61 => some (some 37)
  | 62 => some (some 38)
  | 63 => some (some 39)
  | 71 => some (some 40)
  | 72 => some (some 41)
  | 75 => some (some 42)
  | 76 => some (some 43)
  | 77 => some (some 44)
  | 78 => some (some 45)
  | 79 => some (some 46)
  | 80 => some (some 47)
  | 81 => some (some 48)
  | 82 => some (some 49)
  | _ => none
def SM : ph_S := fun k => match k with
  | 0 => .inr (.inl (11, 83, rfM))
  | 1 => .inl (0, 4)
  | 2 => .inl (0, 96)
  | 3 => .inl (0, 96)
  | 4 => .inl (0, 96)
  | 5 => .inl (0, 96)
  | 6 => .inl (0, 12)
  | 7 => .inl (0, 30)
  | 8 => .inl (0, 40)
  | 9 => .inl (0, 40)
  | 10 => .inl (0, 28)
  | 11 => .inl (0, 28)
  | 12 => .inl (0, 4)
  | 13 => .inl (1, 4)
  | 14 => .inl (0, 4)
  | 15 => .inl (0, 4)
  | 16 => .inl (0, 12)
  | 17 => .inl (0, 12)
  | 18 => .inl (0, 12)
  | 19 => .inl (0, 192)
  | 20 => .inl (0, 8428)
  | 21 => .inl (0, 8428)
  | 22 => .inl (0, 1204)
  | 23 => .inl (0, 1204)
  | 24 => .inl (0, 301)
  | 25 => .inl (0, 3612)
  | 26 => .inl (0, 3612)
  | 27 => .inl (0, 3612)
  | 28 => .inl (0, 57792)
  | 29 => .inl (0, 301)
  | 30 => .inl (0, 301)
  | 31 => .inl (0, 301)
  | 32 => .inl (0, 301)
  | 33 => .inl (0, 301)
  | 34 => .inl (0, 301)
  | 35 => .inl (0, 301)
  | 36 => .inl (0, 30)
  | 37 => .inl (0, 301)
  | 38 => .inl (0, 301)
  | 39 => .inl (1, 90601)
  | 40 => .inl (0, 2)
  | 41 => .inl (0, 2)
  | 42 => .inl (0, 2)
  | 43 => .inl (0, 2)
  | 44 => .inl (0, 8)
  | 45 => .inl (0, 8)
  | 46 => .inl (0, 8)
  | 47 => .inl (0, 8)
  | 48 => .inl (0, 480)
  | 49 => .inl (0, 60)
  | _ => .inl (0, 0)
set_option maxRecDepth 100000 in
theorem inM : ∀ w ∈ u_ws RX12 TX12 83, w ∈ TW := TW_lays [1202, 1204, 1206, 1208, 1210, 1212, 1214, 1216, 1218, 1220, 1222, 1224, 1226, 1228, 1230, 1232, 1234, 1236, 1238, 1240, 1242, 1244, 1246, 1248, 1250, 1252, 1254, 1256, 1258, 1260, 1262, 1264, 1266, 1268, 1270, 1272, 1274, 1276, 1278, 1280, 1282, 1284, 1286, 1288, 1290, 1292, 1294, 1296, 1298, 1300, 1302, 1304, 1306, 1308, 1310, 1312, 1314, 1316, 1318, 1320, 1322, 1324, 1326, 1328, 1330, 1332, 1334, 1336, 1338, 1340, 1342, 1344, 1346, 1348, 1350, 1352, 1354, 1356, 1358, 1360, 1362, 1364, 1366] (by decide +kernel)
section MF
variable {X : fj_X} {Y : fj_Y} {l0 : Launch} {cc : ByteArray} {nL : Nat} {rm : Room} {mc ms : Nat} {ret : Option FieldType} {ad : Nat → Nat} {h : ph_H} {pc : Nat} {lv : List (Nat × Value)} {st : List Value}
theorem lf_7 : Cond.fieldLink RX12 7 (TX12 1).1 (TX12 1).2.1 (TX12 1).2.2.1 ∈ TW := (TWt 1121 (by decide +kernel) (by decide +kernel))
theorem gM_7 (C : FC X Y l0 cc nL RX12 rm mc ms ret) (hd : decode cc pc = .ok (.getfield 7, 3)) (k : FJ X Y ad 50 SM h (pc + 3) lv (.ref (ad 1) :: st)) : FJ X Y ad 50 SM h pc lv (.ref (ad 0) :: st) := j_get (j := 1) C hd (by decide) rfl rfl inM (by decide) lf_7 rfl rfl k
theorem lf_13 : Cond.fieldLink RX12 13 (TX12 2).1 (TX12 2).2.1 (TX12 2).2.2.1 ∈ TW := (TWt 1122 (by decide +kernel) (by decide +kernel))
theorem gM_13 (C : FC X Y l0 cc nL RX12 rm mc ms ret) (hd : decode cc pc = .ok (.getfield 13, 3)) (k : FJ X Y ad 50 SM h (pc + 3) lv (.ref (ad 2) :: st)) : FJ X Y ad 50 SM h pc lv (.ref (ad 0) :: st) := j_get (j := 2) C hd (by decide) rfl rfl inM (by decide) lf_13 rfl rfl k
theorem lf_16 : Cond.fieldLink RX12 16 (TX12 3).1 (TX12 3).2.1 (TX12 3).2.2.1 ∈ TW := (TWt 1123 (by decide +kernel) (by decide +kernel))
theorem gM_16 (C : FC X Y l0 cc nL RX12 rm mc ms ret) (hd : decode cc pc = .ok (.getfield 16, 3)) (k : FJ X Y ad 50 SM h (pc + 3) lv (.ref (ad 3) :: st)) : FJ X Y ad 50 SM h pc lv (.ref (ad 0) :: st) := j_get (j := 3) C hd (by decide) rfl rfl inM (by decide) lf_16 rfl rfl k
theorem lf_19 : Cond.fieldLink RX12 19 (TX12 4).1 (TX12 4).2.1 (TX12 4).2.2.1 ∈ TW := (TWt 1124 (by decide +kernel) (by decide +kernel))
theorem gM_19 (C : FC X Y l0 cc nL RX12 rm mc ms ret) (hd : decode cc pc = .ok (.getfield 19, 3)) (k : FJ X Y ad 50 SM h (pc + 3) lv (.ref (ad 4) :: st)) : FJ X Y ad 50 SM h pc lv (.ref (ad 0) :: st) := j_get (j := 4) C hd (by decide) rfl rfl inM (by decide) lf_19 rfl rfl k
theorem lf_22 : Cond.fieldLink RX12 22 (TX12 5).1 (TX12 5).2.1 (TX12 5).2.2.1 ∈ TW := (TWt 1125 (by decide +kernel) (by decide +kernel))
theorem gM_22 (C : FC X Y l0 cc nL RX12 rm mc ms ret) (hd : decode cc pc = .ok (.getfield 22, 3)) (k : FJ X Y ad 50 SM h (pc + 3) lv (.ref (ad 5) :: st)) : FJ X Y ad 50 SM h pc lv (.ref (ad 0) :: st) := j_get (j := 5) C hd (by decide) rfl rfl inM (by decide) lf_22 rfl rfl k
theorem lf_25 : Cond.fieldLink RX12 25 (TX12 6).1 (TX12 6).2.1 (TX12 6).2.2.1 ∈ TW := (TWt 1126 (by decide +kernel) (by decide +kernel))
theorem gM_25 (C : FC X Y l0 cc nL RX12 rm mc ms ret) (hd : decode cc pc = .ok (.getfield 25, 3)) (k : FJ X Y ad 50 SM h (pc + 3) lv (.ref (ad 6) :: st)) : FJ X Y ad 50 SM h pc lv (.ref (ad 0) :: st) := j_get (j := 6) C hd (by decide) rfl rfl inM (by decide) lf_25 rfl rfl k
theorem lf_28 : Cond.fieldLink RX12 28 (TX12 8).1 (TX12 8).2.1 (TX12 8).2.2.1 ∈ TW := (TWt 1128 (by decide +kernel) (by decide +kernel))
theorem gM_28 (C : FC X Y l0 cc nL RX12 rm mc ms ret) (hd : decode cc pc = .ok (.getfield 28, 3)) (k : FJ X Y ad 50 SM h (pc + 3) lv (.ref (ad 7) :: st)) : FJ X Y ad 50 SM h pc lv (.ref (ad 0) :: st) := j_get (j := 8) C hd (by decide) rfl rfl inM (by decide) lf_28 rfl rfl k
theorem lf_31 : Cond.fieldLink RX12 31 (TX12 10).1 (TX12 10).2.1 (TX12 10).2.2.1 ∈ TW := (TWt 1130 (by decide +kernel) (by decide +kernel))
theorem gM_31 (C : FC X Y l0 cc nL RX12 rm mc ms ret) (hd : decode cc pc = .ok (.getfield 31, 3)) (k : FJ X Y ad 50 SM h (pc + 3) lv (.ref (ad 8) :: st)) : FJ X Y ad 50 SM h pc lv (.ref (ad 0) :: st) := j_get (j := 10) C hd (by decide) rfl rfl inM (by decide) lf_31 rfl rfl k
theorem lf_34 : Cond.fieldLink RX12 34 (TX12 11).1 (TX12 11).2.1 (TX12 11).2.2.1 ∈ TW := (TWt 1131 (by decide +kernel) (by decide +kernel))
theorem gM_34 (C : FC X Y l0 cc nL RX12 rm mc ms ret) (hd : decode cc pc = .ok (.getfield 34, 3)) (k : FJ X Y ad 50 SM h (pc + 3) lv (.ref (ad 9) :: st)) : FJ X Y ad 50 SM h pc lv (.ref (ad 0) :: st) := j_get (j := 11) C hd (by decide) rfl rfl inM (by decide) lf_34 rfl rfl k
theorem lf_37 : Cond.fieldLink RX12 37 (TX12 12).1 (TX12 12).2.1 (TX12 12).2.2.1 ∈ TW := (TWt 1132 (by decide +kernel) (by decide +kernel))
theorem gM_37 (C : FC X Y l0 cc nL RX12 rm mc ms ret) (hd : decode cc pc = .ok (.getfield 37, 3)) (k : FJ X Y ad 50 SM h (pc + 3) lv (.ref (ad 10) :: st)) : FJ X Y ad 50 SM h pc lv (.ref (ad 0) :: st) := j_get (j := 12) C hd (by decide) rfl rfl inM (by decide) lf_37 rfl rfl k
theorem lf_40 : Cond.fieldLink RX12 40 (TX12 13).1 (TX12 13).2.1 (TX12 13).2.2.1 ∈ TW := (TWt 1133 (by decide +kernel) (by decide +kernel))
theorem gM_40 (C : FC X Y l0 cc nL RX12 rm mc ms ret) (hd : decode cc pc = .ok (.getfield 40, 3)) (k : FJ X Y ad 50 SM h (pc + 3) lv (.ref (ad 11) :: st)) : FJ X Y ad 50 SM h pc lv (.ref (ad 0) :: st) := j_get (j := 13) C hd (by decide) rfl rfl inM (by decide) lf_40 rfl rfl k
theorem lf_43 : Cond.fieldLink RX12 43 (TX12 14).1 (TX12 14).2.1 (TX12 14).2.2.1 ∈ TW := (TWt 1134 (by decide +kernel) (by decide +kernel))
theorem gM_43 (C : FC X Y l0 cc nL RX12 rm mc ms ret) (hd : decode cc pc = .ok (.getfield 43, 3)) (k : FJ X Y ad 50 SM h (pc + 3) lv (.ref (ad 12) :: st)) : FJ X Y ad 50 SM h pc lv (.ref (ad 0) :: st) := j_get (j := 14) C hd (by decide) rfl rfl inM (by decide) lf_43 rfl rfl k
theorem lf_46 : Cond.fieldLink RX12 46 (TX12 15).1 (TX12 15).2.1 (TX12 15).2.2.1 ∈ TW := (TWt 1135 (by decide +kernel) (by decide +kernel))
theorem gM_46 (C : FC X Y l0 cc nL RX12 rm mc ms ret) (hd : decode cc pc = .ok (.getfield 46, 3)) (k : FJ X Y ad 50 SM h (pc + 3) lv (.ref (ad 13) :: st)) : FJ X Y ad 50 SM h pc lv (.ref (ad 0) :: st) := j_get (j := 15) C hd (by decide) rfl rfl inM (by decide) lf_46 rfl rfl k
theorem lf_50 : Cond.fieldLink RX12 50 (TX12 16).1 (TX12 16).2.1 (TX12 16).2.2.1 ∈ TW := (TWt 1136 (by decide +kernel) (by decide +kernel))
theorem gM_50 (C : FC X Y l0 cc nL RX12 rm mc ms ret) (hd : decode cc pc = .ok (.getfield 50, 3)) (k : FJ X Y ad 50 SM h (pc + 3) lv (.ref (ad 14) :: st)) : FJ X Y ad 50 SM h pc lv (.ref (ad 0) :: st) := j_get (j := 16) C hd (by decide) rfl rfl inM (by decide) lf_50 rfl rfl k
theorem lf_53 : Cond.fieldLink RX12 53 (TX12 17).1 (TX12 17).2.1 (TX12 17).2.2.1 ∈ TW := (TWt 1137 (by decide +kernel) (by decide +kernel))
theorem gM_53 (C : FC X Y l0 cc nL RX12 rm mc ms ret) (hd : decode cc pc = .ok (.getfield 53, 3)) (k : FJ X Y ad 50 SM h (pc + 3) lv (.ref (ad 15) :: st)) : FJ X Y ad 50 SM h pc lv (.ref (ad 0) :: st) := j_get (j := 17) C hd (by decide) rfl rfl inM (by decide) lf_53 rfl rfl k
theorem lf_56 : Cond.fieldLink RX12 56 (TX12 19).1 (TX12 19).2.1 (TX12 19).2.2.1 ∈ TW := (TWt 1139 (by decide +kernel) (by decide +kernel))
theorem gM_56 (C : FC X Y l0 cc nL RX12 rm mc ms ret) (hd : decode cc pc = .ok (.getfield 56, 3)) (k : FJ X Y ad 50 SM h (pc + 3) lv (.ref (ad 16) :: st)) : FJ X Y ad 50 SM h pc lv (.ref (ad 0) :: st) := j_get (j := 19) C hd (by decide) rfl rfl inM (by decide) lf_56 rfl rfl k
theorem lf_59 : Cond.fieldLink RX12 59 (TX12 20).1 (TX12 20).2.1 (TX12 20).2.2.1 ∈ TW := (TWt 1140 (by decide +kernel) (by decide +kernel))
theorem gM_59 (C : FC X Y l0 cc nL RX12 rm mc ms ret) (hd : decode cc pc = .ok (.getfield 59, 3)) (k : FJ X Y ad 50 SM h (pc + 3) lv (.ref (ad 17) :: st)) : FJ X Y ad 50 SM h pc lv (.ref (ad 0) :: st) := j_get (j := 20) C hd (by decide) rfl rfl inM (by decide) lf_59 rfl rfl k
theorem lf_62 : Cond.fieldLink RX12 62 (TX12 21).1 (TX12 21).2.1 (TX12 21).2.2.1 ∈ TW := (TWt 1141 (by decide +kernel) (by decide +kernel))
theorem gM_62 (C : FC X Y l0 cc nL RX12 rm mc ms ret) (hd : decode cc pc = .ok (.getfield 62, 3)) (k : FJ X Y ad 50 SM h (pc + 3) lv (.ref (ad 18) :: st)) : FJ X Y ad 50 SM h pc lv (.ref (ad 0) :: st) := j_get (j := 21) C hd (by decide) rfl rfl inM (by decide) lf_62 rfl rfl k
theorem lf_65 : Cond.fieldLink RX12 65 (TX12 22).1 (TX12 22).2.1 (TX12 22).2.2.1 ∈ TW := (TWt 1142 (by decide +kernel) (by decide +kernel))
theorem gM_65 (C : FC X Y l0 cc nL RX12 rm mc ms ret) (hd : decode cc pc = .ok (.getfield 65, 3)) (k : FJ X Y ad 50 SM h (pc + 3) lv (.ref (ad 19) :: st)) : FJ X Y ad 50 SM h pc lv (.ref (ad 0) :: st) := j_get (j := 22) C hd (by decide) rfl rfl inM (by decide) lf_65 rfl rfl k
theorem lf_68 : Cond.fieldLink RX12 68 (TX12 43).1 (TX12 43).2.1 (TX12 43).2.2.1 ∈ TW := (TWt 1163 (by decide +kernel) (by decide +kernel))
theorem gM_68 (C : FC X Y l0 cc nL RX12 rm mc ms ret) (hd : decode cc pc = .ok (.getfield 68, 3)) (k : FJ X Y ad 50 SM h (pc + 3) lv (.ref (ad 20) :: st)) : FJ X Y ad 50 SM h pc lv (.ref (ad 0) :: st) := j_get (j := 43) C hd (by decide) rfl rfl inM (by decide) lf_68 rfl rfl k
theorem lf_71 : Cond.fieldLink RX12 71 (TX12 44).1 (TX12 44).2.1 (TX12 44).2.2.1 ∈ TW := (TWt 1164 (by decide +kernel) (by decide +kernel))
theorem gM_71 (C : FC X Y l0 cc nL RX12 rm mc ms ret) (hd : decode cc pc = .ok (.getfield 71, 3)) (k : FJ X Y ad 50 SM h (pc + 3) lv (.ref (ad 21) :: st)) : FJ X Y ad 50 SM h pc lv (.ref (ad 0) :: st) := j_get (j := 44) C hd (by decide) rfl rfl inM (by decide) lf_71 rfl rfl k
theorem lf_74 : Cond.fieldLink RX12 74 (TX12 45).1 (TX12 45).2.1 (TX12 45).2.2.1 ∈ TW := (TWt 1165 (by decide +kernel) (by decide +kernel))
theorem gM_74 (C : FC X Y l0 cc nL RX12 rm mc ms ret) (hd : decode cc pc = .ok (.getfield 74, 3)) (k : FJ X Y ad 50 SM h (pc + 3) lv (.ref (ad 22) :: st)) : FJ X Y ad 50 SM h pc lv (.ref (ad 0) :: st) := j_get (j := 45) C hd (by decide) rfl rfl inM (by decide) lf_74 rfl rfl k
theorem lf_77 : Cond.fieldLink RX12 77 (TX12 46).1 (TX12 46).2.1 (TX12 46).2.2.1 ∈ TW := (TWt 1166 (by decide +kernel) (by decide +kernel))
theorem gM_77 (C : FC X Y l0 cc nL RX12 rm mc ms ret) (hd : decode cc pc = .ok (.getfield 77, 3)) (k : FJ X Y ad 50 SM h (pc + 3) lv (.ref (ad 23) :: st)) : FJ X Y ad 50 SM h pc lv (.ref (ad 0) :: st) := j_get (j := 46) C hd (by decide) rfl rfl inM (by decide) lf_77 rfl rfl k
theorem lf_80 : Cond.fieldLink RX12 80 (TX12 47).1 (TX12 47).2.1 (TX12 47).2.2.1 ∈ TW := (TWt 1167 (by decide +kernel) (by decide +kernel))
theorem gM_80 (C : FC X Y l0 cc nL RX12 rm mc ms ret) (hd : decode cc pc = .ok (.getfield 80, 3)) (k : FJ X Y ad 50 SM h (pc + 3) lv (.ref (ad 24) :: st)) : FJ X Y ad 50 SM h pc lv (.ref (ad 0) :: st) := j_get (j := 47) C hd (by decide) rfl rfl inM (by decide) lf_80 rfl rfl k
theorem lf_83 : Cond.fieldLink RX12 83 (TX12 48).1 (TX12 48).2.1 (TX12 48).2.2.1 ∈ TW := (TWt 1168 (by decide +kernel) (by decide +kernel))
theorem gM_83 (C : FC X Y l0 cc nL RX12 rm mc ms ret) (hd : decode cc pc = .ok (.getfield 83, 3)) (k : FJ X Y ad 50 SM h (pc + 3) lv (.ref (ad 25) :: st)) : FJ X Y ad 50 SM h pc lv (.ref (ad 0) :: st) := j_get (j := 48) C hd (by decide) rfl rfl inM (by decide) lf_83 rfl rfl k
theorem lf_86 : Cond.fieldLink RX12 86 (TX12 49).1 (TX12 49).2.1 (TX12 49).2.2.1 ∈ TW := (TWt 1169 (by decide +kernel) (by decide +kernel))
theorem gM_86 (C : FC X Y l0 cc nL RX12 rm mc ms ret) (hd : decode cc pc = .ok (.getfield 86, 3)) (k : FJ X Y ad 50 SM h (pc + 3) lv (.ref (ad 26) :: st)) : FJ X Y ad 50 SM h pc lv (.ref (ad 0) :: st) := j_get (j := 49) C hd (by decide) rfl rfl inM (by decide) lf_86 rfl rfl k
theorem lf_89 : Cond.fieldLink RX12 89 (TX12 50).1 (TX12 50).2.1 (TX12 50).2.2.1 ∈ TW := (TWt 1170 (by decide +kernel) (by decide +kernel))
theorem gM_89 (C : FC X Y l0 cc nL RX12 rm mc ms ret) (hd : decode cc pc = .ok (.getfield 89, 3)) (k : FJ X Y ad 50 SM h (pc + 3) lv (.ref (ad 27) :: st)) : FJ X Y ad 50 SM h pc lv (.ref (ad 0) :: st) := j_get (j := 50) C hd (by decide) rfl rfl inM (by decide) lf_89 rfl rfl k
theorem lf_93 : Cond.fieldLink RX12 93 (TX12 51).1 (TX12 51).2.1 (TX12 51).2.2.1 ∈ TW := (TWt 1171 (by decide +kernel) (by decide +kernel))
theorem gM_93 (C : FC X Y l0 cc nL RX12 rm mc ms ret) (hd : decode cc pc = .ok (.getfield 93, 3)) (k : FJ X Y ad 50 SM h (pc + 3) lv (.ref (ad 28) :: st)) : FJ X Y ad 50 SM h pc lv (.ref (ad 0) :: st) := j_get (j := 51) C hd (by decide) rfl rfl inM (by decide) lf_93 rfl rfl k
theorem lf_96 : Cond.fieldLink RX12 96 (TX12 52).1 (TX12 52).2.1 (TX12 52).2.2.1 ∈ TW := (TWt 1172 (by decide +kernel) (by decide +kernel))
theorem gM_96 (C : FC X Y l0 cc nL RX12 rm mc ms ret) (hd : decode cc pc = .ok (.getfield 96, 3)) (k : FJ X Y ad 50 SM h (pc + 3) lv (.ref (ad 29) :: st)) : FJ X Y ad 50 SM h pc lv (.ref (ad 0) :: st) := j_get (j := 52) C hd (by decide) rfl rfl inM (by decide) lf_96 rfl rfl k
theorem lf_99 : Cond.fieldLink RX12 99 (TX12 53).1 (TX12 53).2.1 (TX12 53).2.2.1 ∈ TW := (TWt 1173 (by decide +kernel) (by decide +kernel))
theorem gM_99 (C : FC X Y l0 cc nL RX12 rm mc ms ret) (hd : decode cc pc = .ok (.getfield 99, 3)) (k : FJ X Y ad 50 SM h (pc + 3) lv (.ref (ad 30) :: st)) : FJ X Y ad 50 SM h pc lv (.ref (ad 0) :: st) := j_get (j := 53) C hd (by decide) rfl rfl inM (by decide) lf_99 rfl rfl k
theorem lf_102 : Cond.fieldLink RX12 102 (TX12 54).1 (TX12 54).2.1 (TX12 54).2.2.1 ∈ TW := (TWt 1174 (by decide +kernel) (by decide +kernel))
theorem gM_102 (C : FC X Y l0 cc nL RX12 rm mc ms ret) (hd : decode cc pc = .ok (.getfield 102, 3)) (k : FJ X Y ad 50 SM h (pc + 3) lv (.ref (ad 31) :: st)) : FJ X Y ad 50 SM h pc lv (.ref (ad 0) :: st) := j_get (j := 54) C hd (by decide) rfl rfl inM (by decide) lf_102 rfl rfl k
theorem lf_105 : Cond.fieldLink RX12 105 (TX12 55).1 (TX12 55).2.1 (TX12 55).2.2.1 ∈ TW := (TWt 1175 (by decide +kernel) (by decide +kernel))
theorem gM_105 (C : FC X Y l0 cc nL RX12 rm mc ms ret) (hd : decode cc pc = .ok (.getfield 105, 3)) (k : FJ X Y ad 50 SM h (pc + 3) lv (.ref (ad 32) :: st)) : FJ X Y ad 50 SM h pc lv (.ref (ad 0) :: st) := j_get (j := 55) C hd (by decide) rfl rfl inM (by decide) lf_105 rfl rfl k
theorem lf_108 : Cond.fieldLink RX12 108 (TX12 56).1 (TX12 56).2.1 (TX12 56).2.2.1 ∈ TW := (TWt 1176 (by decide +kernel) (by decide +kernel))
theorem gM_108 (C : FC X Y l0 cc nL RX12 rm mc ms ret) (hd : decode cc pc = .ok (.getfield 108, 3)) (k : FJ X Y ad 50 SM h (pc + 3) lv (.ref (ad 33) :: st)) : FJ X Y ad 50 SM h pc lv (.ref (ad 0) :: st) := j_get (j := 56) C hd (by decide) rfl rfl inM (by decide) lf_108 rfl rfl k
theorem lf_111 : Cond.fieldLink RX12 111 (TX12 57).1 (TX12 57).2.1 (TX12 57).2.2.1 ∈ TW := (TWt 1177 (by decide +kernel) (by decide +kernel))
theorem gM_111 (C : FC X Y l0 cc nL RX12 rm mc ms ret) (hd : decode cc pc = .ok (.getfield 111, 3)) (k : FJ X Y ad 50 SM h (pc + 3) lv (.ref (ad 34) :: st)) : FJ X Y ad 50 SM h pc lv (.ref (ad 0) :: st) := j_get (j := 57) C hd (by decide) rfl rfl inM (by decide) lf_111 rfl rfl k
theorem lf_114 : Cond.fieldLink RX12 114 (TX12 58).1 (TX12 58).2.1 (TX12 58).2.2.1 ∈ TW := (TWt 1178 (by decide +kernel) (by decide +kernel))
theorem gM_114 (C : FC X Y l0 cc nL RX12 rm mc ms ret) (hd : decode cc pc = .ok (.getfield 114, 3)) (k : FJ X Y ad 50 SM h (pc + 3) lv (.ref (ad 35) :: st)) : FJ X Y ad 50 SM h pc lv (.ref (ad 0) :: st) := j_get (j := 58) C hd (by decide) rfl rfl inM (by decide) lf_114 rfl rfl k
theorem lf_117 : Cond.fieldLink RX12 117 (TX12 59).1 (TX12 59).2.1 (TX12 59).2.2.1 ∈ TW := (TWt 1179 (by decide +kernel) (by decide +kernel))
theorem gM_117 (C : FC X Y l0 cc nL RX12 rm mc ms ret) (hd : decode cc pc = .ok (.getfield 117, 3)) (k : FJ X Y ad 50 SM h (pc + 3) lv (.ref (ad 36) :: st)) : FJ X Y ad 50 SM h pc lv (.ref (ad 0) :: st) := j_get (j := 59) C hd (by decide) rfl rfl inM (by decide) lf_117 rfl rfl k
theorem lf_120 : Cond.fieldLink RX12 120 (TX12 61).1 (TX12 61).2.1 (TX12 61).2.2.1 ∈ TW := (TWt 1181 (by decide +kernel) (by decide +kernel))
theorem gM_120 (C : FC X Y l0 cc nL RX12 rm mc ms ret) (hd : decode cc pc = .ok (.getfield 120, 3)) (k : FJ X Y ad 50 SM h (pc + 3) lv (.ref (ad 37) :: st)) : FJ X Y ad 50 SM h pc lv (.ref (ad 0) :: st) := j_get (j := 61) C hd (by decide) rfl rfl inM (by decide) lf_120 rfl rfl k
theorem lf_123 : Cond.fieldLink RX12 123 (TX12 62).1 (TX12 62).2.1 (TX12 62).2.2.1 ∈ TW := (TWt 1182 (by decide +kernel) (by decide +kernel))
theorem gM_123 (C : FC X Y l0 cc nL RX12 rm mc ms ret) (hd : decode cc pc = .ok (.getfield 123, 3)) (k : FJ X Y ad 50 SM h (pc + 3) lv (.ref (ad 38) :: st)) : FJ X Y ad 50 SM h pc lv (.ref (ad 0) :: st) := j_get (j := 62) C hd (by decide) rfl rfl inM (by decide) lf_123 rfl rfl k
theorem lf_127 : Cond.fieldLink RX12 127 (TX12 63).1 (TX12 63).2.1 (TX12 63).2.2.1 ∈ TW := (TWt 1183 (by decide +kernel) (by decide +kernel))
theorem gM_127 (C : FC X Y l0 cc nL RX12 rm mc ms ret) (hd : decode cc pc = .ok (.getfield 127, 3)) (k : FJ X Y ad 50 SM h (pc + 3) lv (.ref (ad 39) :: st)) : FJ X Y ad 50 SM h pc lv (.ref (ad 0) :: st) := j_get (j := 63) C hd (by decide) rfl rfl inM (by decide) lf_127 rfl rfl k
theorem lf_130 : Cond.fieldLink RX12 130 (TX12 66).1 (TX12 66).2.1 (TX12 66).2.2.1 ∈ TW := (TWt 1185 (by decide +kernel) (by decide +kernel))
theorem gM_130 {v : Int32} (C : FC X Y l0 cc nL RX12 rm mc ms ret) (hd : decode cc pc = .ok (.getfield 130, 3)) (hv : h 0 66 = v) (k : FJ X Y ad 50 SM h (pc + 3) lv (.int v :: st)) : FJ X Y ad 50 SM h pc lv (.ref (ad 0) :: st) := j_get (j := 66) C hd (by decide) rfl rfl inM (by decide) lf_130 rfl (by subst hv; rfl) k
theorem pM_130 {v : Int32} (C : FC X Y l0 cc nL RX12 rm mc ms ret) (hd : decode cc pc = .ok (.putfield 130, 3)) (k : FJ X Y ad 50 SM (hs h 0 66 v) (pc + 3) lv st) : FJ X Y ad 50 SM h pc lv (.int v :: .ref (ad 0) :: st) := j_put (ty := .int) (j := 66) C hd (by decide) rfl rfl inM tyX12_ok nmX12 (by decide) lf_130 rfl rfl rfl (by decide +kernel) rfl rfl k
theorem lf_134 : Cond.fieldLink RX12 134 (TX12 71).1 (TX12 71).2.1 (TX12 71).2.2.1 ∈ TW := (TWt 1190 (by decide +kernel) (by decide +kernel))
theorem gM_134 (C : FC X Y l0 cc nL RX12 rm mc ms ret) (hd : decode cc pc = .ok (.getfield 134, 3)) (k : FJ X Y ad 50 SM h (pc + 3) lv (.ref (ad 40) :: st)) : FJ X Y ad 50 SM h pc lv (.ref (ad 0) :: st) := j_get (j := 71) C hd (by decide) rfl rfl inM (by decide) lf_134 rfl rfl k
theorem lf_137 : Cond.fieldLink RX12 137 (TX12 72).1 (TX12 72).2.1 (TX12 72).2.2.1 ∈ TW := (TWt 1191 (by decide +kernel) (by decide +kernel))
theorem gM_137 (C : FC X Y l0 cc nL RX12 rm mc ms ret) (hd : decode cc pc = .ok (.getfield 137, 3)) (k : FJ X Y ad 50 SM h (pc + 3) lv (.ref (ad 41) :: st)) : FJ X Y ad 50 SM h pc lv (.ref (ad 0) :: st) := j_get (j := 72) C hd (by decide) rfl rfl inM (by decide) lf_137 rfl rfl k
theorem lf_140 : Cond.fieldLink RX12 140 (TX12 75).1 (TX12 75).2.1 (TX12 75).2.2.1 ∈ TW := (TWt 1194 (by decide +kernel) (by decide +kernel))
theorem gM_140 (C : FC X Y l0 cc nL RX12 rm mc ms ret) (hd : decode cc pc = .ok (.getfield 140, 3)) (k : FJ X Y ad 50 SM h (pc + 3) lv (.ref (ad 42) :: st)) : FJ X Y ad 50 SM h pc lv (.ref (ad 0) :: st) := j_get (j := 75) C hd (by decide) rfl rfl inM (by decide) lf_140 rfl rfl k
theorem lf_143 : Cond.fieldLink RX12 143 (TX12 76).1 (TX12 76).2.1 (TX12 76).2.2.1 ∈ TW := (TWt 1195 (by decide +kernel) (by decide +kernel))
theorem gM_143 (C : FC X Y l0 cc nL RX12 rm mc ms ret) (hd : decode cc pc = .ok (.getfield 143, 3)) (k : FJ X Y ad 50 SM h (pc + 3) lv (.ref (ad 43) :: st)) : FJ X Y ad 50 SM h pc lv (.ref (ad 0) :: st) := j_get (j := 76) C hd (by decide) rfl rfl inM (by decide) lf_143 rfl rfl k
theorem lf_146 : Cond.fieldLink RX12 146 (TX12 77).1 (TX12 77).2.1 (TX12 77).2.2.1 ∈ TW := (TWt 1196 (by decide +kernel) (by decide +kernel))
theorem gM_146 (C : FC X Y l0 cc nL RX12 rm mc ms ret) (hd : decode cc pc = .ok (.getfield 146, 3)) (k : FJ X Y ad 50 SM h (pc + 3) lv (.ref (ad 44) :: st)) : FJ X Y ad 50 SM h pc lv (.ref (ad 0) :: st) := j_get (j := 77) C hd (by decide) rfl rfl inM (by decide) lf_146 rfl rfl k
theorem lf_149 : Cond.fieldLink RX12 149 (TX12 78).1 (TX12 78).2.1 (TX12 78).2.2.1 ∈ TW := (TWt 1197 (by decide +kernel) (by decide +kernel))
theorem gM_149 (C : FC X Y l0 cc nL RX12 rm mc ms ret) (hd : decode cc pc = .ok (.getfield 149, 3)) (k : FJ X Y ad 50 SM h (pc + 3) lv (.ref (ad 45) :: st)) : FJ X Y ad 50 SM h pc lv (.ref (ad 0) :: st) := j_get (j := 78) C hd (by decide) rfl rfl inM (by decide) lf_149 rfl rfl k
theorem lf_152 : Cond.fieldLink RX12 152 (TX12 79).1 (TX12 79).2.1 (TX12 79).2.2.1 ∈ TW := (TWt 1198 (by decide +kernel) (by decide +kernel))
theorem gM_152 (C : FC X Y l0 cc nL RX12 rm mc ms ret) (hd : decode cc pc = .ok (.getfield 152, 3)) (k : FJ X Y ad 50 SM h (pc + 3) lv (.ref (ad 46) :: st)) : FJ X Y ad 50 SM h pc lv (.ref (ad 0) :: st) := j_get (j := 79) C hd (by decide) rfl rfl inM (by decide) lf_152 rfl rfl k
theorem lf_155 : Cond.fieldLink RX12 155 (TX12 80).1 (TX12 80).2.1 (TX12 80).2.2.1 ∈ TW := (TWt 1199 (by decide +kernel) (by decide +kernel))
theorem gM_155 (C : FC X Y l0 cc nL RX12 rm mc ms ret) (hd : decode cc pc = .ok (.getfield 155, 3)) (k : FJ X Y ad 50 SM h (pc + 3) lv (.ref (ad 47) :: st)) : FJ X Y ad 50 SM h pc lv (.ref (ad 0) :: st) := j_get (j := 80) C hd (by decide) rfl rfl inM (by decide) lf_155 rfl rfl k
theorem lf_158 : Cond.fieldLink RX12 158 (TX12 81).1 (TX12 81).2.1 (TX12 81).2.2.1 ∈ TW := (TWt 1200 (by decide +kernel) (by decide +kernel))
theorem gM_158 (C : FC X Y l0 cc nL RX12 rm mc ms ret) (hd : decode cc pc = .ok (.getfield 158, 3)) (k : FJ X Y ad 50 SM h (pc + 3) lv (.ref (ad 48) :: st)) : FJ X Y ad 50 SM h pc lv (.ref (ad 0) :: st) := j_get (j := 81) C hd (by decide) rfl rfl inM (by decide) lf_158 rfl rfl k
theorem lf_161 : Cond.fieldLink RX12 161 (TX12 82).1 (TX12 82).2.1 (TX12 82).2.2.1 ∈ TW := (TWt 1201 (by decide +kernel) (by decide +kernel))
theorem gM_161 (C : FC X Y l0 cc nL RX12 rm mc ms ret) (hd : decode cc pc = .ok (.getfield 161, 3)) (k : FJ X Y ad 50 SM h (pc + 3) lv (.ref (ad 49) :: st)) : FJ X Y ad 50 SM h pc lv (.ref (ad 0) :: st) := j_get (j := 82) C hd (by decide) rfl rfl inM (by decide) lf_161 rfl rfl k
theorem lf_164 : Cond.fieldLink RX12 164 (TX12 0).1 (TX12 0).2.1 (TX12 0).2.2.1 ∈ TW := (TWt 1120 (by decide +kernel) (by decide +kernel))
theorem gM_164 {v : Int32} (C : FC X Y l0 cc nL RX12 rm mc ms ret) (hd : decode cc pc = .ok (.getfield 164, 3)) (hv : h 0 0 = v) (k : FJ X Y ad 50 SM h (pc + 3) lv (.int v :: st)) : FJ X Y ad 50 SM h pc lv (.ref (ad 0) :: st) := j_get (j := 0) C hd (by decide) rfl rfl inM (by decide) lf_164 rfl (by subst hv; rfl) k
theorem pM_164 {v : Int32} (C : FC X Y l0 cc nL RX12 rm mc ms ret) (hd : decode cc pc = .ok (.putfield 164, 3)) (k : FJ X Y ad 50 SM (hs h 0 0 v) (pc + 3) lv st) : FJ X Y ad 50 SM h pc lv (.int v :: .ref (ad 0) :: st) := j_put (ty := .int) (j := 0) C hd (by decide) rfl rfl inM tyX12_ok nmX12 (by decide) lf_164 rfl rfl rfl (by decide +kernel) rfl rfl k
theorem lf_177 : Cond.fieldLink RX12 177 (TX12 7).1 (TX12 7).2.1 (TX12 7).2.2.1 ∈ TW := (TWt 1127 (by decide +kernel) (by decide +kernel))
theorem gM_177 {v : Int32} (C : FC X Y l0 cc nL RX12 rm mc ms ret) (hd : decode cc pc = .ok (.getfield 177, 3)) (hv : h 0 7 = v) (k : FJ X Y ad 50 SM h (pc + 3) lv (.int v :: st)) : FJ X Y ad 50 SM h pc lv (.ref (ad 0) :: st) := j_get (j := 7) C hd (by decide) rfl rfl inM (by decide) lf_177 rfl (by subst hv; rfl) k
theorem pM_177 {v : Int32} (C : FC X Y l0 cc nL RX12 rm mc ms ret) (hd : decode cc pc = .ok (.putfield 177, 3)) (k : FJ X Y ad 50 SM (hs h 0 7 v) (pc + 3) lv st) : FJ X Y ad 50 SM h pc lv (.int v :: .ref (ad 0) :: st) := j_put (ty := .int) (j := 7) C hd (by decide) rfl rfl inM tyX12_ok nmX12 (by decide) lf_177 rfl rfl rfl (by decide +kernel) rfl rfl k
theorem lf_182 : Cond.fieldLink RX12 182 (TX12 9).1 (TX12 9).2.1 (TX12 9).2.2.1 ∈ TW := (TWt 1129 (by decide +kernel) (by decide +kernel))
theorem gM_182 {v : Int32} (C : FC X Y l0 cc nL RX12 rm mc ms ret) (hd : decode cc pc = .ok (.getfield 182, 3)) (hv : h 0 9 = v) (k : FJ X Y ad 50 SM h (pc + 3) lv (.int v :: st)) : FJ X Y ad 50 SM h pc lv (.ref (ad 0) :: st) := j_get (j := 9) C hd (by decide) rfl rfl inM (by decide) lf_182 rfl (by subst hv; rfl) k
theorem pM_182 {v : Int32} (C : FC X Y l0 cc nL RX12 rm mc ms ret) (hd : decode cc pc = .ok (.putfield 182, 3)) (k : FJ X Y ad 50 SM (hs h 0 9 v) (pc + 3) lv st) : FJ X Y ad 50 SM h pc lv (.int v :: .ref (ad 0) :: st) := j_put (ty := .int) (j := 9) C hd (by decide) rfl rfl inM tyX12_ok nmX12 (by decide) lf_182 rfl rfl rfl (by decide +kernel) rfl rfl k
theorem lf_185 : Cond.fieldLink RX12 185 (TX12 18).1 (TX12 18).2.1 (TX12 18).2.2.1 ∈ TW := (TWt 1138 (by decide +kernel) (by decide +kernel))
theorem gM_185 {v : Int32} (C : FC X Y l0 cc nL RX12 rm mc ms ret) (hd : decode cc pc = .ok (.getfield 185, 3)) (hv : h 0 18 = v) (k : FJ X Y ad 50 SM h (pc + 3) lv (.int v :: st)) : FJ X Y ad 50 SM h pc lv (.ref (ad 0) :: st) := j_get (j := 18) C hd (by decide) rfl rfl inM (by decide) lf_185 rfl (by subst hv; rfl) k
theorem pM_185 {v : Int32} (C : FC X Y l0 cc nL RX12 rm mc ms ret) (hd : decode cc pc = .ok (.putfield 185, 3)) (k : FJ X Y ad 50 SM (hs h 0 18 v) (pc + 3) lv st) : FJ X Y ad 50 SM h pc lv (.int v :: .ref (ad 0) :: st) := j_put (ty := .int) (j := 18) C hd (by decide) rfl rfl inM tyX12_ok nmX12 (by decide) lf_185 rfl rfl rfl (by decide +kernel) rfl rfl k
theorem lf_188 : Cond.fieldLink RX12 188 (TX12 23).1 (TX12 23).2.1 (TX12 23).2.2.1 ∈ TW := (TWt 1143 (by decide +kernel) (by decide +kernel))
theorem gM_188 {v : Int32} (C : FC X Y l0 cc nL RX12 rm mc ms ret) (hd : decode cc pc = .ok (.getfield 188, 3)) (hv : h 0 23 = v) (k : FJ X Y ad 50 SM h (pc + 3) lv (.int v :: st)) : FJ X Y ad 50 SM h pc lv (.ref (ad 0) :: st) := j_get (j := 23) C hd (by decide) rfl rfl inM (by decide) lf_188 rfl (by subst hv; rfl) k
theorem pM_188 {v : Int32} (C : FC X Y l0 cc nL RX12 rm mc ms ret) (hd : decode cc pc = .ok (.putfield 188, 3)) (k : FJ X Y ad 50 SM (hs h 0 23 v) (pc + 3) lv st) : FJ X Y ad 50 SM h pc lv (.int v :: .ref (ad 0) :: st) := j_put (ty := .int) (j := 23) C hd (by decide) rfl rfl inM tyX12_ok nmX12 (by decide) lf_188 rfl rfl rfl (by decide +kernel) rfl rfl k
theorem lf_191 : Cond.fieldLink RX12 191 (TX12 24).1 (TX12 24).2.1 (TX12 24).2.2.1 ∈ TW := (TWt 1144 (by decide +kernel) (by decide +kernel))
theorem gM_191 {v : Int32} (C : FC X Y l0 cc nL RX12 rm mc ms ret) (hd : decode cc pc = .ok (.getfield 191, 3)) (hv : h 0 24 = v) (k : FJ X Y ad 50 SM h (pc + 3) lv (.int v :: st)) : FJ X Y ad 50 SM h pc lv (.ref (ad 0) :: st) := j_get (j := 24) C hd (by decide) rfl rfl inM (by decide) lf_191 rfl (by subst hv; rfl) k
theorem pM_191 {v : Int32} (C : FC X Y l0 cc nL RX12 rm mc ms ret) (hd : decode cc pc = .ok (.putfield 191, 3)) (k : FJ X Y ad 50 SM (hs h 0 24 v) (pc + 3) lv st) : FJ X Y ad 50 SM h pc lv (.int v :: .ref (ad 0) :: st) := j_put (ty := .int) (j := 24) C hd (by decide) rfl rfl inM tyX12_ok nmX12 (by decide) lf_191 rfl rfl rfl (by decide +kernel) rfl rfl k
theorem lf_194 : Cond.fieldLink RX12 194 (TX12 25).1 (TX12 25).2.1 (TX12 25).2.2.1 ∈ TW := (TWt 1145 (by decide +kernel) (by decide +kernel))
theorem gM_194 {v : Int32} (C : FC X Y l0 cc nL RX12 rm mc ms ret) (hd : decode cc pc = .ok (.getfield 194, 3)) (hv : h 0 25 = v) (k : FJ X Y ad 50 SM h (pc + 3) lv (.int v :: st)) : FJ X Y ad 50 SM h pc lv (.ref (ad 0) :: st) := j_get (j := 25) C hd (by decide) rfl rfl inM (by decide) lf_194 rfl (by subst hv; rfl) k
theorem pM_194 {v : Int32} (C : FC X Y l0 cc nL RX12 rm mc ms ret) (hd : decode cc pc = .ok (.putfield 194, 3)) (k : FJ X Y ad 50 SM (hs h 0 25 v) (pc + 3) lv st) : FJ X Y ad 50 SM h pc lv (.int v :: .ref (ad 0) :: st) := j_put (ty := .int) (j := 25) C hd (by decide) rfl rfl inM tyX12_ok nmX12 (by decide) lf_194 rfl rfl rfl (by decide +kernel) rfl rfl k
theorem lf_197 : Cond.fieldLink RX12 197 (TX12 26).1 (TX12 26).2.1 (TX12 26).2.2.1 ∈ TW := (TWt 1146 (by decide +kernel) (by decide +kernel))
theorem gM_197 {v : Int32} (C : FC X Y l0 cc nL RX12 rm mc ms ret) (hd : decode cc pc = .ok (.getfield 197, 3)) (hv : h 0 26 = v) (k : FJ X Y ad 50 SM h (pc + 3) lv (.int v :: st)) : FJ X Y ad 50 SM h pc lv (.ref (ad 0) :: st) := j_get (j := 26) C hd (by decide) rfl rfl inM (by decide) lf_197 rfl (by subst hv; rfl) k
theorem pM_197 {v : Int32} (C : FC X Y l0 cc nL RX12 rm mc ms ret) (hd : decode cc pc = .ok (.putfield 197, 3)) (k : FJ X Y ad 50 SM (hs h 0 26 v) (pc + 3) lv st) : FJ X Y ad 50 SM h pc lv (.int v :: .ref (ad 0) :: st) := j_put (ty := .int) (j := 26) C hd (by decide) rfl rfl inM tyX12_ok nmX12 (by decide) lf_197 rfl rfl rfl (by decide +kernel) rfl rfl k
theorem lf_200 : Cond.fieldLink RX12 200 (TX12 35).1 (TX12 35).2.1 (TX12 35).2.2.1 ∈ TW := (TWt 1155 (by decide +kernel) (by decide +kernel))
theorem gM_200 {v : Int32} (C : FC X Y l0 cc nL RX12 rm mc ms ret) (hd : decode cc pc = .ok (.getfield 200, 3)) (hv : h 0 35 = v) (k : FJ X Y ad 50 SM h (pc + 3) lv (.int v :: st)) : FJ X Y ad 50 SM h pc lv (.ref (ad 0) :: st) := j_get (j := 35) C hd (by decide) rfl rfl inM (by decide) lf_200 rfl (by subst hv; rfl) k
theorem pM_200 {v : Int32} (C : FC X Y l0 cc nL RX12 rm mc ms ret) (hd : decode cc pc = .ok (.putfield 200, 3)) (hb : bo v) (k : FJ X Y ad 50 SM (hs h 0 35 v) (pc + 3) lv st) : FJ X Y ad 50 SM h pc lv (.int v :: .ref (ad 0) :: st) := j_put (ty := .boolean) (j := 35) C hd (by decide) rfl rfl inM tyX12_ok nmX12 (by decide) lf_200 rfl rfl rfl (by decide +kernel) (bo_n hb) (bo_f hb) k
theorem lf_218 : Cond.fieldLink RX12 218 (TX12 33).1 (TX12 33).2.1 (TX12 33).2.2.1 ∈ TW := (TWt 1153 (by decide +kernel) (by decide +kernel))
theorem gM_218 {v : Int32} (C : FC X Y l0 cc nL RX12 rm mc ms ret) (hd : decode cc pc = .ok (.getfield 218, 3)) (hv : h 0 33 = v) (k : FJ X Y ad 50 SM h (pc + 3) lv (.int v :: st)) : FJ X Y ad 50 SM h pc lv (.ref (ad 0) :: st) := j_get (j := 33) C hd (by decide) rfl rfl inM (by decide) lf_218 rfl (by subst hv; rfl) k
theorem pM_218 {v : Int32} (C : FC X Y l0 cc nL RX12 rm mc ms ret) (hd : decode cc pc = .ok (.putfield 218, 3)) (hb : bo v) (k : FJ X Y ad 50 SM (hs h 0 33 v) (pc + 3) lv st) : FJ X Y ad 50 SM h pc lv (.int v :: .ref (ad 0) :: st) := j_put (ty := .boolean) (j := 33) C hd (by decide) rfl rfl inM tyX12_ok nmX12 (by decide) lf_218 rfl rfl rfl (by decide +kernel) (bo_n hb) (bo_f hb) k
theorem lf_228 : Cond.fieldLink RX12 228 (TX12 29).1 (TX12 29).2.1 (TX12 29).2.2.1 ∈ TW := (TWt 1149 (by decide +kernel) (by decide +kernel))
theorem gM_228 {v : Int32} (C : FC X Y l0 cc nL RX12 rm mc ms ret) (hd : decode cc pc = .ok (.getfield 228, 3)) (hv : h 0 29 = v) (k : FJ X Y ad 50 SM h (pc + 3) lv (.int v :: st)) : FJ X Y ad 50 SM h pc lv (.ref (ad 0) :: st) := j_get (j := 29) C hd (by decide) rfl rfl inM (by decide) lf_228 rfl (by subst hv; rfl) k
theorem pM_228 {v : Int32} (C : FC X Y l0 cc nL RX12 rm mc ms ret) (hd : decode cc pc = .ok (.putfield 228, 3)) (k : FJ X Y ad 50 SM (hs h 0 29 v) (pc + 3) lv st) : FJ X Y ad 50 SM h pc lv (.int v :: .ref (ad 0) :: st) := j_put (ty := .int) (j := 29) C hd (by decide) rfl rfl inM tyX12_ok nmX12 (by decide) lf_228 rfl rfl rfl (by decide +kernel) rfl rfl k
theorem lf_231 : Cond.fieldLink RX12 231 (TX12 30).1 (TX12 30).2.1 (TX12 30).2.2.1 ∈ TW := (TWt 1150 (by decide +kernel) (by decide +kernel))
theorem gM_231 {v : Int32} (C : FC X Y l0 cc nL RX12 rm mc ms ret) (hd : decode cc pc = .ok (.getfield 231, 3)) (hv : h 0 30 = v) (k : FJ X Y ad 50 SM h (pc + 3) lv (.int v :: st)) : FJ X Y ad 50 SM h pc lv (.ref (ad 0) :: st) := j_get (j := 30) C hd (by decide) rfl rfl inM (by decide) lf_231 rfl (by subst hv; rfl) k
theorem pM_231 {v : Int32} (C : FC X Y l0 cc nL RX12 rm mc ms ret) (hd : decode cc pc = .ok (.putfield 231, 3)) (k : FJ X Y ad 50 SM (hs h 0 30 v) (pc + 3) lv st) : FJ X Y ad 50 SM h pc lv (.int v :: .ref (ad 0) :: st) := j_put (ty := .int) (j := 30) C hd (by decide) rfl rfl inM tyX12_ok nmX12 (by decide) lf_231 rfl rfl rfl (by decide +kernel) rfl rfl k
theorem lf_234 : Cond.fieldLink RX12 234 (TX12 31).1 (TX12 31).2.1 (TX12 31).2.2.1 ∈ TW := (TWt 1151 (by decide +kernel) (by decide +kernel))
theorem gM_234 {v : Int32} (C : FC X Y l0 cc nL RX12 rm mc ms ret) (hd : decode cc pc = .ok (.getfield 234, 3)) (hv : h 0 31 = v) (k : FJ X Y ad 50 SM h (pc + 3) lv (.int v :: st)) : FJ X Y ad 50 SM h pc lv (.ref (ad 0) :: st) := j_get (j := 31) C hd (by decide) rfl rfl inM (by decide) lf_234 rfl (by subst hv; rfl) k
theorem pM_234 {v : Int32} (C : FC X Y l0 cc nL RX12 rm mc ms ret) (hd : decode cc pc = .ok (.putfield 234, 3)) (k : FJ X Y ad 50 SM (hs h 0 31 v) (pc + 3) lv st) : FJ X Y ad 50 SM h pc lv (.int v :: .ref (ad 0) :: st) := j_put (ty := .int) (j := 31) C hd (by decide) rfl rfl inM tyX12_ok nmX12 (by decide) lf_234 rfl rfl rfl (by decide +kernel) rfl rfl k
theorem lf_237 : Cond.fieldLink RX12 237 (TX12 32).1 (TX12 32).2.1 (TX12 32).2.2.1 ∈ TW := (TWt 1152 (by decide +kernel) (by decide +kernel))
theorem gM_237 {v : Int32} (C : FC X Y l0 cc nL RX12 rm mc ms ret) (hd : decode cc pc = .ok (.getfield 237, 3)) (hv : h 0 32 = v) (k : FJ X Y ad 50 SM h (pc + 3) lv (.int v :: st)) : FJ X Y ad 50 SM h pc lv (.ref (ad 0) :: st) := j_get (j := 32) C hd (by decide) rfl rfl inM (by decide) lf_237 rfl (by subst hv; rfl) k
theorem pM_237 {v : Int32} (C : FC X Y l0 cc nL RX12 rm mc ms ret) (hd : decode cc pc = .ok (.putfield 237, 3)) (k : FJ X Y ad 50 SM (hs h 0 32 v) (pc + 3) lv st) : FJ X Y ad 50 SM h pc lv (.int v :: .ref (ad 0) :: st) := j_put (ty := .int) (j := 32) C hd (by decide) rfl rfl inM tyX12_ok nmX12 (by decide) lf_237 rfl rfl rfl (by decide +kernel) rfl rfl k
theorem lf_240 : Cond.fieldLink RX12 240 (TX12 27).1 (TX12 27).2.1 (TX12 27).2.2.1 ∈ TW := (TWt 1147 (by decide +kernel) (by decide +kernel))
theorem gM_240 {v : Int32} (C : FC X Y l0 cc nL RX12 rm mc ms ret) (hd : decode cc pc = .ok (.getfield 240, 3)) (hv : h 0 27 = v) (k : FJ X Y ad 50 SM h (pc + 3) lv (.int v :: st)) : FJ X Y ad 50 SM h pc lv (.ref (ad 0) :: st) := j_get (j := 27) C hd (by decide) rfl rfl inM (by decide) lf_240 rfl (by subst hv; rfl) k
theorem pM_240 {v : Int32} (C : FC X Y l0 cc nL RX12 rm mc ms ret) (hd : decode cc pc = .ok (.putfield 240, 3)) (k : FJ X Y ad 50 SM (hs h 0 27 v) (pc + 3) lv st) : FJ X Y ad 50 SM h pc lv (.int v :: .ref (ad 0) :: st) := j_put (ty := .int) (j := 27) C hd (by decide) rfl rfl inM tyX12_ok nmX12 (by decide) lf_240 rfl rfl rfl (by decide +kernel) rfl rfl k
theorem lf_243 : Cond.fieldLink RX12 243 (TX12 28).1 (TX12 28).2.1 (TX12 28).2.2.1 ∈ TW := (TWt 1148 (by decide +kernel) (by decide +kernel))
theorem gM_243 {v : Int32} (C : FC X Y l0 cc nL RX12 rm mc ms ret) (hd : decode cc pc = .ok (.getfield 243, 3)) (hv : h 0 28 = v) (k : FJ X Y ad 50 SM h (pc + 3) lv (.int v :: st)) : FJ X Y ad 50 SM h pc lv (.ref (ad 0) :: st) := j_get (j := 28) C hd (by decide) rfl rfl inM (by decide) lf_243 rfl (by subst hv; rfl) k
theorem pM_243 {v : Int32} (C : FC X Y l0 cc nL RX12 rm mc ms ret) (hd : decode cc pc = .ok (.putfield 243, 3)) (k : FJ X Y ad 50 SM (hs h 0 28 v) (pc + 3) lv st) : FJ X Y ad 50 SM h pc lv (.int v :: .ref (ad 0) :: st) := j_put (ty := .int) (j := 28) C hd (by decide) rfl rfl inM tyX12_ok nmX12 (by decide) lf_243 rfl rfl rfl (by decide +kernel) rfl rfl k
theorem lf_250 : Cond.fieldLink RX12 250 (TX12 34).1 (TX12 34).2.1 (TX12 34).2.2.1 ∈ TW := (TWt 1154 (by decide +kernel) (by decide +kernel))
theorem gM_250 {v : Int32} (C : FC X Y l0 cc nL RX12 rm mc ms ret) (hd : decode cc pc = .ok (.getfield 250, 3)) (hv : h 0 34 = v) (k : FJ X Y ad 50 SM h (pc + 3) lv (.int v :: st)) : FJ X Y ad 50 SM h pc lv (.ref (ad 0) :: st) := j_get (j := 34) C hd (by decide) rfl rfl inM (by decide) lf_250 rfl (by subst hv; rfl) k
theorem pM_250 {v : Int32} (C : FC X Y l0 cc nL RX12 rm mc ms ret) (hd : decode cc pc = .ok (.putfield 250, 3)) (k : FJ X Y ad 50 SM (hs h 0 34 v) (pc + 3) lv st) : FJ X Y ad 50 SM h pc lv (.int v :: .ref (ad 0) :: st) := j_put (ty := .int) (j := 34) C hd (by decide) rfl rfl inM tyX12_ok nmX12 (by decide) lf_250 rfl rfl rfl (by decide +kernel) rfl rfl k
theorem lf_272 : Cond.fieldLink RX12 272 (TX12 60).1 (TX12 60).2.1 (TX12 60).2.2.1 ∈ TW := (TWt 1180 (by decide +kernel) (by decide +kernel))
theorem gM_272 {v : Int32} (C : FC X Y l0 cc nL RX12 rm mc ms ret) (hd : decode cc pc = .ok (.getfield 272, 3)) (hv : h 0 60 = v) (k : FJ X Y ad 50 SM h (pc + 3) lv (.int v :: st)) : FJ X Y ad 50 SM h pc lv (.ref (ad 0) :: st) := j_get (j := 60) C hd (by decide) rfl rfl inM (by decide) lf_272 rfl (by subst hv; rfl) k
theorem pM_272 {v : Int32} (C : FC X Y l0 cc nL RX12 rm mc ms ret) (hd : decode cc pc = .ok (.putfield 272, 3)) (k : FJ X Y ad 50 SM (hs h 0 60 v) (pc + 3) lv st) : FJ X Y ad 50 SM h pc lv (.int v :: .ref (ad 0) :: st) := j_put (ty := .int) (j := 60) C hd (by decide) rfl rfl inM tyX12_ok nmX12 (by decide) lf_272 rfl rfl rfl (by decide +kernel) rfl rfl k
theorem lf_288 : Cond.fieldLink RX12 288 (TX12 64).1 (TX12 64).2.1 (TX12 64).2.2.1 ∈ TW := (TWt 1184 (by decide +kernel) (by decide +kernel))
theorem gM_288 {v : Int32} (C : FC X Y l0 cc nL RX12 rm mc ms ret) (hd : decode cc pc = .ok (.getfield 288, 3)) (hv : h 0 64 = v) (k : FJ X Y ad 50 SM h (pc + 3) lv (.int v :: st)) : FJ X Y ad 50 SM h pc lv (.ref (ad 0) :: st) := j_get (j := 64) C hd (by decide) rfl rfl inM (by decide) lf_288 rfl (by subst hv; rfl) k
theorem pM_288 {v : Int32} (C : FC X Y l0 cc nL RX12 rm mc ms ret) (hd : decode cc pc = .ok (.putfield 288, 3)) (hb : bo v) (k : FJ X Y ad 50 SM (hs h 0 64 v) (pc + 3) lv st) : FJ X Y ad 50 SM h pc lv (.int v :: .ref (ad 0) :: st) := j_put (ty := .boolean) (j := 64) C hd (by decide) rfl rfl inM tyX12_ok nmX12 (by decide) lf_288 rfl rfl rfl (by decide +kernel) (bo_n hb) (bo_f hb) k
theorem lf_294 : Cond.fieldLink RX12 294 (TX12 36).1 (TX12 36).2.1 (TX12 36).2.2.1 ∈ TW := (TWt 1156 (by decide +kernel) (by decide +kernel))
theorem gM_294 {v : Int32} (C : FC X Y l0 cc nL RX12 rm mc ms ret) (hd : decode cc pc = .ok (.getfield 294, 3)) (hv : h 0 36 = v) (k : FJ X Y ad 50 SM h (pc + 3) lv (.int v :: st)) : FJ X Y ad 50 SM h pc lv (.ref (ad 0) :: st) := j_get (j := 36) C hd (by decide) rfl rfl inM (by decide) lf_294 rfl (by subst hv; rfl) k
theorem pM_294 {v : Int32} (C : FC X Y l0 cc nL RX12 rm mc ms ret) (hd : decode cc pc = .ok (.putfield 294, 3)) (hb : bo v) (k : FJ X Y ad 50 SM (hs h 0 36 v) (pc + 3) lv st) : FJ X Y ad 50 SM h pc lv (.int v :: .ref (ad 0) :: st) := j_put (ty := .boolean) (j := 36) C hd (by decide) rfl rfl inM tyX12_ok nmX12 (by decide) lf_294 rfl rfl rfl (by decide +kernel) (bo_n hb) (bo_f hb) k
theorem lf_301 : Cond.fieldLink RX12 301 (TX12 37).1 (TX12 37).2.1 (TX12 37).2.2.1 ∈ TW := (TWt 1157 (by decide +kernel) (by decide +kernel))
theorem gM_301 {v : Int32} (C : FC X Y l0 cc nL RX12 rm mc ms ret) (hd : decode cc pc = .ok (.getfield 301, 3)) (hv : h 0 37 = v) (k : FJ X Y ad 50 SM h (pc + 3) lv (.int v :: st)) : FJ X Y ad 50 SM h pc lv (.ref (ad 0) :: st) := j_get (j := 37) C hd (by decide) rfl rfl inM (by decide) lf_301 rfl (by subst hv; rfl) k
theorem pM_301 {v : Int32} (C : FC X Y l0 cc nL RX12 rm mc ms ret) (hd : decode cc pc = .ok (.putfield 301, 3)) (k : FJ X Y ad 50 SM (hs h 0 37 v) (pc + 3) lv st) : FJ X Y ad 50 SM h pc lv (.int v :: .ref (ad 0) :: st) := j_put (ty := .int) (j := 37) C hd (by decide) rfl rfl inM tyX12_ok nmX12 (by decide) lf_301 rfl rfl rfl (by decide +kernel) rfl rfl k
theorem lf_304 : Cond.fieldLink RX12 304 (TX12 38).1 (TX12 38).2.1 (TX12 38).2.2.1 ∈ TW := (TWt 1158 (by decide +kernel) (by decide +kernel))
theorem gM_304 {v : Int32} (C : FC X Y l0 cc nL RX12 rm mc ms ret) (hd : decode cc pc = .ok (.getfield 304, 3)) (hv : h 0 38 = v) (k : FJ X Y ad 50 SM h (pc + 3) lv (.int v :: st)) : FJ X Y ad 50 SM h pc lv (.ref (ad 0) :: st) := j_get (j := 38) C hd (by decide) rfl rfl inM (by decide) lf_304 rfl (by subst hv; rfl) k
theorem pM_304 {v : Int32} (C : FC X Y l0 cc nL RX12 rm mc ms ret) (hd : decode cc pc = .ok (.putfield 304, 3)) (k : FJ X Y ad 50 SM (hs h 0 38 v) (pc + 3) lv st) : FJ X Y ad 50 SM h pc lv (.int v :: .ref (ad 0) :: st) := j_put (ty := .int) (j := 38) C hd (by decide) rfl rfl inM tyX12_ok nmX12 (by decide) lf_304 rfl rfl rfl (by decide +kernel) rfl rfl k
theorem lf_307 : Cond.fieldLink RX12 307 (TX12 39).1 (TX12 39).2.1 (TX12 39).2.2.1 ∈ TW := (TWt 1159 (by decide +kernel) (by decide +kernel))
theorem gM_307 {v : Int32} (C : FC X Y l0 cc nL RX12 rm mc ms ret) (hd : decode cc pc = .ok (.getfield 307, 3)) (hv : h 0 39 = v) (k : FJ X Y ad 50 SM h (pc + 3) lv (.int v :: st)) : FJ X Y ad 50 SM h pc lv (.ref (ad 0) :: st) := j_get (j := 39) C hd (by decide) rfl rfl inM (by decide) lf_307 rfl (by subst hv; rfl) k
theorem pM_307 {v : Int32} (C : FC X Y l0 cc nL RX12 rm mc ms ret) (hd : decode cc pc = .ok (.putfield 307, 3)) (k : FJ X Y ad 50 SM (hs h 0 39 v) (pc + 3) lv st) : FJ X Y ad 50 SM h pc lv (.int v :: .ref (ad 0) :: st) := j_put (ty := .int) (j := 39) C hd (by decide) rfl rfl inM tyX12_ok nmX12 (by decide) lf_307 rfl rfl rfl (by decide +kernel) rfl rfl k
theorem lf_310 : Cond.fieldLink RX12 310 (TX12 40).1 (TX12 40).2.1 (TX12 40).2.2.1 ∈ TW := (TWt 1160 (by decide +kernel) (by decide +kernel))
theorem gM_310 {v : Int32} (C : FC X Y l0 cc nL RX12 rm mc ms ret) (hd : decode cc pc = .ok (.getfield 310, 3)) (hv : h 0 40 = v) (k : FJ X Y ad 50 SM h (pc + 3) lv (.int v :: st)) : FJ X Y ad 50 SM h pc lv (.ref (ad 0) :: st) := j_get (j := 40) C hd (by decide) rfl rfl inM (by decide) lf_310 rfl (by subst hv; rfl) k
theorem pM_310 {v : Int32} (C : FC X Y l0 cc nL RX12 rm mc ms ret) (hd : decode cc pc = .ok (.putfield 310, 3)) (k : FJ X Y ad 50 SM (hs h 0 40 v) (pc + 3) lv st) : FJ X Y ad 50 SM h pc lv (.int v :: .ref (ad 0) :: st) := j_put (ty := .int) (j := 40) C hd (by decide) rfl rfl inM tyX12_ok nmX12 (by decide) lf_310 rfl rfl rfl (by decide +kernel) rfl rfl k
theorem lf_313 : Cond.fieldLink RX12 313 (TX12 41).1 (TX12 41).2.1 (TX12 41).2.2.1 ∈ TW := (TWt 1161 (by decide +kernel) (by decide +kernel))
theorem gM_313 {v : Int32} (C : FC X Y l0 cc nL RX12 rm mc ms ret) (hd : decode cc pc = .ok (.getfield 313, 3)) (hv : h 0 41 = v) (k : FJ X Y ad 50 SM h (pc + 3) lv (.int v :: st)) : FJ X Y ad 50 SM h pc lv (.ref (ad 0) :: st) := j_get (j := 41) C hd (by decide) rfl rfl inM (by decide) lf_313 rfl (by subst hv; rfl) k
theorem pM_313 {v : Int32} (C : FC X Y l0 cc nL RX12 rm mc ms ret) (hd : decode cc pc = .ok (.putfield 313, 3)) (k : FJ X Y ad 50 SM (hs h 0 41 v) (pc + 3) lv st) : FJ X Y ad 50 SM h pc lv (.int v :: .ref (ad 0) :: st) := j_put (ty := .int) (j := 41) C hd (by decide) rfl rfl inM tyX12_ok nmX12 (by decide) lf_313 rfl rfl rfl (by decide +kernel) rfl rfl k
theorem lf_316 : Cond.fieldLink RX12 316 (TX12 42).1 (TX12 42).2.1 (TX12 42).2.2.1 ∈ TW := (TWt 1162 (by decide +kernel) (by decide +kernel))
theorem gM_316 {v : Int32} (C : FC X Y l0 cc nL RX12 rm mc ms ret) (hd : decode cc pc = .ok (.getfield 316, 3)) (hv : h 0 42 = v) (k : FJ X Y ad 50 SM h (pc + 3) lv (.int v :: st)) : FJ X Y ad 50 SM h pc lv (.ref (ad 0) :: st) := j_get (j := 42) C hd (by decide) rfl rfl inM (by decide) lf_316 rfl (by subst hv; rfl) k
theorem pM_316 {v : Int32} (C : FC X Y l0 cc nL RX12 rm mc ms ret) (hd : decode cc pc = .ok (.putfield 316, 3)) (k : FJ X Y ad 50 SM (hs h 0 42 v) (pc + 3) lv st) : FJ X Y ad 50 SM h pc lv (.int v :: .ref (ad 0) :: st) := j_put (ty := .int) (j := 42) C hd (by decide) rfl rfl inM tyX12_ok nmX12 (by decide) lf_316 rfl rfl rfl (by decide +kernel) rfl rfl k
theorem lf_340 : Cond.fieldLink RX12 340 (TX12 74).1 (TX12 74).2.1 (TX12 74).2.2.1 ∈ TW := (TWt 1193 (by decide +kernel) (by decide +kernel))
theorem gM_340 {v : Int32} (C : FC X Y l0 cc nL RX12 rm mc ms ret) (hd : decode cc pc = .ok (.getfield 340, 3)) (hv : h 0 74 = v) (k : FJ X Y ad 50 SM h (pc + 3) lv (.int v :: st)) : FJ X Y ad 50 SM h pc lv (.ref (ad 0) :: st) := j_get (j := 74) C hd (by decide) rfl rfl inM (by decide) lf_340 rfl (by subst hv; rfl) k
theorem pM_340 {v : Int32} (C : FC X Y l0 cc nL RX12 rm mc ms ret) (hd : decode cc pc = .ok (.putfield 340, 3)) (k : FJ X Y ad 50 SM (hs h 0 74 v) (pc + 3) lv st) : FJ X Y ad 50 SM h pc lv (.int v :: .ref (ad 0) :: st) := j_put (ty := .int) (j := 74) C hd (by decide) rfl rfl inM tyX12_ok nmX12 (by decide) lf_340 rfl rfl rfl (by decide +kernel) rfl rfl k
theorem lf_343 : Cond.fieldLink RX12 343 (TX12 67).1 (TX12 67).2.1 (TX12 67).2.2.1 ∈ TW := (TWt 1186 (by decide +kernel) (by decide +kernel))
theorem gM_343 {v : Int32} (C : FC X Y l0 cc nL RX12 rm mc ms ret) (hd : decode cc pc = .ok (.getfield 343, 3)) (hv : h 0 67 = v) (k : FJ X Y ad 50 SM h (pc + 3) lv (.int v :: st)) : FJ X Y ad 50 SM h pc lv (.ref (ad 0) :: st) := j_get (j := 67) C hd (by decide) rfl rfl inM (by decide) lf_343 rfl (by subst hv; rfl) k
theorem pM_343 {v : Int32} (C : FC X Y l0 cc nL RX12 rm mc ms ret) (hd : decode cc pc = .ok (.putfield 343, 3)) (k : FJ X Y ad 50 SM (hs h 0 67 v) (pc + 3) lv st) : FJ X Y ad 50 SM h pc lv (.int v :: .ref (ad 0) :: st) := j_put (ty := .int) (j := 67) C hd (by decide) rfl rfl inM tyX12_ok nmX12 (by decide) lf_343 rfl rfl rfl (by decide +kernel) rfl rfl k
theorem lf_346 : Cond.fieldLink RX12 346 (TX12 69).1 (TX12 69).2.1 (TX12 69).2.2.1 ∈ TW := (TWt 1188 (by decide +kernel) (by decide +kernel))
theorem gM_346 {v : Int32} (C : FC X Y l0 cc nL RX12 rm mc ms ret) (hd : decode cc pc = .ok (.getfield 346, 3)) (hv : h 0 69 = v) (k : FJ X Y ad 50 SM h (pc + 3) lv (.int v :: st)) : FJ X Y ad 50 SM h pc lv (.ref (ad 0) :: st) := j_get (j := 69) C hd (by decide) rfl rfl inM (by decide) lf_346 rfl (by subst hv; rfl) k
theorem pM_346 {v : Int32} (C : FC X Y l0 cc nL RX12 rm mc ms ret) (hd : decode cc pc = .ok (.putfield 346, 3)) (k : FJ X Y ad 50 SM (hs h 0 69 v) (pc + 3) lv st) : FJ X Y ad 50 SM h pc lv (.int v :: .ref (ad 0) :: st) := j_put (ty := .int) (j := 69) C hd (by decide) rfl rfl inM tyX12_ok nmX12 (by decide) lf_346 rfl rfl rfl (by decide +kernel) rfl rfl k
theorem lf_349 : Cond.fieldLink RX12 349 (TX12 70).1 (TX12 70).2.1 (TX12 70).2.2.1 ∈ TW := (TWt 1189 (by decide +kernel) (by decide +kernel))
theorem gM_349 {v : Int32} (C : FC X Y l0 cc nL RX12 rm mc ms ret) (hd : decode cc pc = .ok (.getfield 349, 3)) (hv : h 0 70 = v) (k : FJ X Y ad 50 SM h (pc + 3) lv (.int v :: st)) : FJ X Y ad 50 SM h pc lv (.ref (ad 0) :: st) := j_get (j := 70) C hd (by decide) rfl rfl inM (by decide) lf_349 rfl (by subst hv; rfl) k
theorem pM_349 {v : Int32} (C : FC X Y l0 cc nL RX12 rm mc ms ret) (hd : decode cc pc = .ok (.putfield 349, 3)) (k : FJ X Y ad 50 SM (hs h 0 70 v) (pc + 3) lv st) : FJ X Y ad 50 SM h pc lv (.int v :: .ref (ad 0) :: st) := j_put (ty := .int) (j := 70) C hd (by decide) rfl rfl inM tyX12_ok nmX12 (by decide) lf_349 rfl rfl rfl (by decide +kernel) rfl rfl k
theorem lf_352 : Cond.fieldLink RX12 352 (TX12 73).1 (TX12 73).2.1 (TX12 73).2.2.1 ∈ TW := (TWt 1192 (by decide +kernel) (by decide +kernel))
theorem gM_352 {v : Int32} (C : FC X Y l0 cc nL RX12 rm mc ms ret) (hd : decode cc pc = .ok (.getfield 352, 3)) (hv : h 0 73 = v) (k : FJ X Y ad 50 SM h (pc + 3) lv (.int v :: st)) : FJ X Y ad 50 SM h pc lv (.ref (ad 0) :: st) := j_get (j := 73) C hd (by decide) rfl rfl inM (by decide) lf_352 rfl (by subst hv; rfl) k
theorem pM_352 {v : Int32} (C : FC X Y l0 cc nL RX12 rm mc ms ret) (hd : decode cc pc = .ok (.putfield 352, 3)) (k : FJ X Y ad 50 SM (hs h 0 73 v) (pc + 3) lv st) : FJ X Y ad 50 SM h pc lv (.int v :: .ref (ad 0) :: st) := j_put (ty := .int) (j := 73) C hd (by decide) rfl rfl inM tyX12_ok nmX12 (by decide) lf_352 rfl rfl rfl (by decide +kernel) rfl rfl k
theorem lf_355 : Cond.fieldLink RX12 355 (TX12 68).1 (TX12 68).2.1 (TX12 68).2.2.1 ∈ TW := (TWt 1187 (by decide +kernel) (by decide +kernel))
theorem gM_355 {v : Int32} (C : FC X Y l0 cc nL RX12 rm mc ms ret) (hd : decode cc pc = .ok (.getfield 355, 3)) (hv : h 0 68 = v) (k : FJ X Y ad 50 SM h (pc + 3) lv (.int v :: st)) : FJ X Y ad 50 SM h pc lv (.ref (ad 0) :: st) := j_get (j := 68) C hd (by decide) rfl rfl inM (by decide) lf_355 rfl (by subst hv; rfl) k
theorem pM_355 {v : Int32} (C : FC X Y l0 cc nL RX12 rm mc ms ret) (hd : decode cc pc = .ok (.putfield 355, 3)) (k : FJ X Y ad 50 SM (hs h 0 68 v) (pc + 3) lv st) : FJ X Y ad 50 SM h pc lv (.int v :: .ref (ad 0) :: st) := j_put (ty := .int) (j := 68) C hd (by decide) rfl rfl inM tyX12_ok nmX12 (by decide) lf_355 rfl rfl rfl (by decide +kernel) rfl rfl k
end MF
theorem kl_RX12_167 : Cond.constantLong RX12 167 3 ∈ TW := (TWt 1374 (by decide +kernel) (by decide +kernel))
theorem kl_RX12_173 : Cond.constantLong RX12 173 19 ∈ TW := (TWt 1378 (by decide +kernel) (by decide +kernel))
theorem kl_RX12_175 : Cond.constantLong RX12 175 11 ∈ TW := (TWt 1387 (by decide +kernel) (by decide +kernel))
theorem kl_RX12_180 : Cond.constantLong RX12 180 100 ∈ TW := (TWt 1396 (by decide +kernel) (by decide +kernel))
theorem kl_RX12_325 : Cond.constantLong RX12 325 2 ∈ TW := (TWt 1540 (by decide +kernel) (by decide +kernel))
theorem kl_RX12_372 : Cond.constantLong RX12 372 6 ∈ TW := (TWt 1593 (by decide +kernel) (by decide +kernel))
theorem lk_RX12_169 : Cond.methodLink RX12 169 yX12_isIn ∈ TW := (TWt 1375 (by decide +kernel) (by decide +kernel))
theorem lk_RX12_204 : Cond.methodLink RX12 204 yX12_modulo ∈ TW := (TWt 1425 (by decide +kernel) (by decide +kernel))
theorem lk_RX12_208 : Cond.methodLink RX12 208 yX12_local ∈ TW := (TWt 1421 (by decide +kernel) (by decide +kernel))
theorem lk_RX12_211 : Cond.methodLink RX12 211 yX12_isLock ∈ TW := (TWt 1428 (by decide +kernel) (by decide +kernel))
theorem lk_RX12_215 : Cond.methodLink RX12 215 yX12_canGo ∈ TW := (TWt 1417 (by decide +kernel) (by decide +kernel))
theorem lk_RX12_221 : Cond.methodLink RX12 221 yX12_set ∈ TW := (TWt 1456 (by decide +kernel) (by decide +kernel))
theorem lk_RX12_225 : Cond.methodLink RX12 225 yX12_newThing ∈ TW := (TWt 1460 (by decide +kernel) (by decide +kernel))
theorem lk_RX12_246 : Cond.methodLink RX12 246 yX12_goTo ∈ TW := (TWt 1440 (by decide +kernel) (by decide +kernel))
theorem lk_RX12_253 : Cond.methodLink RX12 253 yX12_instruct ∈ TW := (TWt 1444 (by decide +kernel) (by decide +kernel))
theorem lk_RX12_256 : Cond.methodLink RX12 256 yX12_why ∈ TW := (TWt 1448 (by decide +kernel) (by decide +kernel))
theorem lk_RX12_260 : Cond.methodLink RX12 260 yX12_work ∈ TW := (TWt 1452 (by decide +kernel) (by decide +kernel))
theorem lk_RX12_264 : Cond.methodLink RX12 264 yX12_workPlain ∈ TW := (TWt 1464 (by decide +kernel) (by decide +kernel))
theorem lk_RX12_268 : Cond.methodLink RX12 268 yX12_state ∈ TW := (TWt 1413 (by decide +kernel) (by decide +kernel))
theorem lk_RX12_275 : Cond.methodLink RX12 275 yX12_step ∈ TW := (TWt 1436 (by decide +kernel) (by decide +kernel))
theorem lk_RX12_279 : Cond.methodLink RX12 279 yX12_keep ∈ TW := (TWt 1409 (by decide +kernel) (by decide +kernel))
theorem lk_RX12_282 : Cond.methodLink RX12 282 yX12_free ∈ TW := (TWt 1468 (by decide +kernel) (by decide +kernel))
theorem lk_RX12_285 : Cond.methodLink RX12 285 yX12_begin ∈ TW := (TWt 1405 (by decide +kernel) (by decide +kernel))
theorem lk_RX12_291 : Cond.methodLink RX12 291 yX12_stepKept ∈ TW := (TWt 1432 (by decide +kernel) (by decide +kernel))
theorem lk_RX12_297 : Cond.methodLink RX12 297 yX12_ending ∈ TW := (TWt 1472 (by decide +kernel) (by decide +kernel))
theorem lk_RX12_319 : Cond.methodLink RX12 319 yX12_toldThread ∈ TW := (TWt 1492 (by decide +kernel) (by decide +kernel))
theorem lk_RX12_322 : Cond.methodLink RX12 322 yX12_isThing ∈ TW := (TWt 1516 (by decide +kernel) (by decide +kernel))
theorem lk_RX12_327 : Cond.methodLink RX12 327 yX12_isWaking ∈ TW := (TWt 1553 (by decide +kernel) (by decide +kernel))
theorem lk_RX12_331 : Cond.methodLink RX12 331 yX12_isDirect ∈ TW := (TWt 1549 (by decide +kernel) (by decide +kernel))
theorem lk_RX12_334 : Cond.methodLink RX12 334 yX12_findAhead ∈ TW := (TWt 1545 (by decide +kernel) (by decide +kernel))
theorem lk_RX12_337 : Cond.methodLink RX12 337 yX12_racing ∈ TW := (TWt 1561 (by decide +kernel) (by decide +kernel))
theorem lk_RX12_358 : Cond.methodLink RX12 358 yX12_tryRun ∈ TW := (TWt 1573 (by decide +kernel) (by decide +kernel))
theorem lk_RX12_362 : Cond.methodLink RX12 362 yX12_isOver ∈ TW := (TWt 1577 (by decide +kernel) (by decide +kernel))
theorem lk_RX12_365 : Cond.methodLink RX12 365 yX12_tryLast ∈ TW := (TWt 1581 (by decide +kernel) (by decide +kernel))
theorem lk_RX12_369 : Cond.methodLink RX12 369 yX12_tryBoth ∈ TW := (TWt 1585 (by decide +kernel) (by decide +kernel))
theorem lk_RX12_374 : Cond.methodLink RX12 374 yX12_isShelf ∈ TW := (TWt 1598 (by decide +kernel) (by decide +kernel))
theorem lk_RX12_377 : Cond.methodLink RX12 377 yX12_hasPlaces ∈ TW := (TWt 1613 (by decide +kernel) (by decide +kernel))
theorem lk_RX12_380 : Cond.methodLink RX12 380 yX12_denied ∈ TW := (TWt 1621 (by decide +kernel) (by decide +kernel))
theorem st_X12_isIn : Cond.static yX12_isIn ∈ TW := (TWt 1376 (by decide +kernel) (by decide +kernel))
set_option maxRecDepth 16384 in
theorem CKX12_isIn {rm : Room} (q : ({ frames := 0, cells := 0, slots := 0, locals := 0 } : Room).frames + 1 ≤ rm.frames ∧ 8 + (6 + 11) + ({ frames := 0, cells := 0, slots := 0, locals := 0 } : Room).locals ≤ rm.locals) : CK rm yX12_isIn cX12_isIn 6 (some .boolean) ({ frames := 0, cells := 0, slots := 0, locals := 0 } : Room) 3 := ⟨(TWt 1377 rfl (by decide +kernel)), (TWt 7 (by decide +kernel) (by decide +kernel)), ⟨by decide, by decide⟩, by decide +kernel, q.1, q.2⟩
theorem st_X12_modulo : Cond.static yX12_modulo ∈ TW := (TWt 1426 (by decide +kernel) (by decide +kernel))
set_option maxRecDepth 16384 in
theorem CKX12_modulo {rm : Room} (q : ({ frames := 0, cells := 0, slots := 0, locals := 0 } : Room).frames + 1 ≤ rm.frames ∧ 8 + (2 + 11) + ({ frames := 0, cells := 0, slots := 0, locals := 0 } : Room).locals ≤ rm.locals) : CK rm yX12_modulo cX12_modulo 2 (some .int) ({ frames := 0, cells := 0, slots := 0, locals := 0 } : Room) 2 := ⟨(TWt 1427 rfl (by decide +kernel)), (TWt 7 (by decide +kernel) (by decide +kernel)), ⟨by decide, by decide⟩, by decide +kernel, q.1, q.2⟩
theorem in_X12_code : Cond.instanceMethod yX12_code ∈ TW := (TWt 1371 (by decide +kernel) (by decide +kernel))
theorem se_X12_code : Cond.selects yX12_code.cls yX12_code yX12_code ∈ TW := (TWt 1372 (by decide +kernel) (by decide +kernel))
set_option maxRecDepth 16384 in
theorem CKX12_code {rm : Room} (q : ({ frames := 1, cells := 0, slots := 0, locals := 25 } : Room).frames + 1 ≤ rm.frames ∧ 8 + (7 + 11) + ({ frames := 1, cells := 0, slots := 0, locals := 25 } : Room).locals ≤ rm.locals) : CK rm yX12_code cX12_code 7 (some .int) ({ frames := 1, cells := 0, slots := 0, locals := 25 } : Room) 5 := ⟨(TWt 1373 rfl (by decide +kernel)), (TWt 7 (by decide +kernel) (by decide +kernel)), ⟨by decide, by decide⟩, by decide +kernel, q.1, q.2⟩
theorem in_X12_clear : Cond.instanceMethod yX12_clear ∈ TW := (TWt 1380 (by decide +kernel) (by decide +kernel))
theorem se_X12_clear : Cond.selects yX12_clear.cls yX12_clear yX12_clear ∈ TW := (TWt 1381 (by decide +kernel) (by decide +kernel))
set_option maxRecDepth 16384 in
theorem CKX12_clear {rm : Room} (q : ({ frames := 1, cells := 0, slots := 0, locals := 25 } : Room).frames + 1 ≤ rm.frames ∧ 8 + (3 + 11) + ({ frames := 1, cells := 0, slots := 0, locals := 25 } : Room).locals ≤ rm.locals) : CK rm yX12_clear cX12_clear 3 (some .int) ({ frames := 1, cells := 0, slots := 0, locals := 25 } : Room) 1 := ⟨(TWt 1382 rfl (by decide +kernel)), (TWt 7 (by decide +kernel) (by decide +kernel)), ⟨by decide, by decide⟩, by decide +kernel, q.1, q.2⟩
theorem in_X12_cell : Cond.instanceMethod yX12_cell ∈ TW := (TWt 1384 (by decide +kernel) (by decide +kernel))
theorem se_X12_cell : Cond.selects yX12_cell.cls yX12_cell yX12_cell ∈ TW := (TWt 1385 (by decide +kernel) (by decide +kernel))
set_option maxRecDepth 16384 in
theorem CKX12_cell {rm : Room} (q : ({ frames := 1, cells := 0, slots := 0, locals := 25 } : Room).frames + 1 ≤ rm.frames ∧ 8 + (3 + 11) + ({ frames := 1, cells := 0, slots := 0, locals := 25 } : Room).locals ≤ rm.locals) : CK rm yX12_cell cX12_cell 3 (some .int) ({ frames := 1, cells := 0, slots := 0, locals := 25 } : Room) 2 := ⟨(TWt 1386 rfl (by decide +kernel)), (TWt 7 (by decide +kernel) (by decide +kernel)), ⟨by decide, by decide⟩, by decide +kernel, q.1, q.2⟩
theorem in_X12_input : Cond.instanceMethod yX12_input ∈ TW := (TWt 1389 (by decide +kernel) (by decide +kernel))
theorem se_X12_input : Cond.selects yX12_input.cls yX12_input yX12_input ∈ TW := (TWt 1390 (by decide +kernel) (by decide +kernel))
set_option maxRecDepth 16384 in
theorem CKX12_input {rm : Room} (q : ({ frames := 0, cells := 0, slots := 0, locals := 0 } : Room).frames + 1 ≤ rm.frames ∧ 8 + (2 + 11) + ({ frames := 0, cells := 0, slots := 0, locals := 0 } : Room).locals ≤ rm.locals) : CK rm yX12_input cX12_input 2 (some .int) ({ frames := 0, cells := 0, slots := 0, locals := 0 } : Room) 1 := ⟨(TWt 1391 rfl (by decide +kernel)), (TWt 7 (by decide +kernel) (by decide +kernel)), ⟨by decide, by decide⟩, by decide +kernel, q.1, q.2⟩
theorem in_X12_turn : Cond.instanceMethod yX12_turn ∈ TW := (TWt 1393 (by decide +kernel) (by decide +kernel))
theorem se_X12_turn : Cond.selects yX12_turn.cls yX12_turn yX12_turn ∈ TW := (TWt 1394 (by decide +kernel) (by decide +kernel))
set_option maxRecDepth 16384 in
theorem CKX12_turn {rm : Room} (q : ({ frames := 1, cells := 0, slots := 0, locals := 25 } : Room).frames + 1 ≤ rm.frames ∧ 8 + (3 + 11) + ({ frames := 1, cells := 0, slots := 0, locals := 25 } : Room).locals ≤ rm.locals) : CK rm yX12_turn cX12_turn 3 (some .int) ({ frames := 1, cells := 0, slots := 0, locals := 25 } : Room) 2 := ⟨(TWt 1395 rfl (by decide +kernel)), (TWt 7 (by decide +kernel) (by decide +kernel)), ⟨by decide, by decide⟩, by decide +kernel, q.1, q.2⟩
theorem in_X12_freely : Cond.instanceMethod yX12_freely ∈ TW := (TWt 1398 (by decide +kernel) (by decide +kernel))
theorem se_X12_freely : Cond.selects yX12_freely.cls yX12_freely yX12_freely ∈ TW := (TWt 1399 (by decide +kernel) (by decide +kernel))
set_option maxRecDepth 16384 in
theorem CKX12_freely {rm : Room} (q : ({ frames := 0, cells := 0, slots := 0, locals := 0 } : Room).frames + 1 ≤ rm.frames ∧ 8 + (2 + 11) + ({ frames := 0, cells := 0, slots := 0, locals := 0 } : Room).locals ≤ rm.locals) : CK rm yX12_freely cX12_freely 2 (some .int) ({ frames := 0, cells := 0, slots := 0, locals := 0 } : Room) 0 := ⟨(TWt 1400 rfl (by decide +kernel)), (TWt 7 (by decide +kernel) (by decide +kernel)), ⟨by decide, by decide⟩, by decide +kernel, q.1, q.2⟩
theorem in_X12_begin : Cond.instanceMethod yX12_begin ∈ TW := (TWt 1407 (by decide +kernel) (by decide +kernel))
theorem se_X12_begin : Cond.selects yX12_begin.cls yX12_begin yX12_begin ∈ TW := (TWp 46 (by decide +kernel) (by decide +kernel))
set_option maxRecDepth 16384 in
theorem CKX12_begin {rm : Room} (q : ({ frames := 0, cells := 0, slots := 0, locals := 0 } : Room).frames + 1 ≤ rm.frames ∧ 8 + (2 + 11) + ({ frames := 0, cells := 0, slots := 0, locals := 0 } : Room).locals ≤ rm.locals) : CK rm yX12_begin cX12_begin 2 none ({ frames := 0, cells := 0, slots := 0, locals := 0 } : Room) 0 := ⟨(TWt 1408 rfl (by decide +kernel)), (TWt 7 (by decide +kernel) (by decide +kernel)), ⟨by decide, by decide⟩, by decide +kernel, q.1, q.2⟩
theorem in_X12_local : Cond.instanceMethod yX12_local ∈ TW := (TWt 1423 (by decide +kernel) (by decide +kernel))
theorem se_X12_local : Cond.selects yX12_local.cls yX12_local yX12_local ∈ TW := (TWp 50 (by decide +kernel) (by decide +kernel))
set_option maxRecDepth 16384 in
theorem CKX12_local {rm : Room} (q : ({ frames := 1, cells := 0, slots := 0, locals := 21 } : Room).frames + 1 ≤ rm.frames ∧ 8 + (3 + 11) + ({ frames := 1, cells := 0, slots := 0, locals := 21 } : Room).locals ≤ rm.locals) : CK rm yX12_local cX12_local 3 (some .int) ({ frames := 1, cells := 0, slots := 0, locals := 21 } : Room) 2 := ⟨(TWt 1424 rfl (by decide +kernel)), (TWt 7 (by decide +kernel) (by decide +kernel)), ⟨by decide, by decide⟩, by decide +kernel, q.1, q.2⟩
theorem in_X12_isLock : Cond.instanceMethod yX12_isLock ∈ TW := (TWt 1430 (by decide +kernel) (by decide +kernel))
theorem se_X12_isLock : Cond.selects yX12_isLock.cls yX12_isLock yX12_isLock ∈ TW := (TWp 51 (by decide +kernel) (by decide +kernel))
set_option maxRecDepth 16384 in
theorem CKX12_isLock {rm : Room} (q : ({ frames := 0, cells := 0, slots := 0, locals := 0 } : Room).frames + 1 ≤ rm.frames ∧ 8 + (2 + 11) + ({ frames := 0, cells := 0, slots := 0, locals := 0 } : Room).locals ≤ rm.locals) : CK rm yX12_isLock cX12_isLock 2 (some .boolean) ({ frames := 0, cells := 0, slots := 0, locals := 0 } : Room) 1 := ⟨(TWt 1431 rfl (by decide +kernel)), (TWt 7 (by decide +kernel) (by decide +kernel)), ⟨by decide, by decide⟩, by decide +kernel, q.1, q.2⟩
theorem in_X12_canGo : Cond.instanceMethod yX12_canGo ∈ TW := (TWt 1419 (by decide +kernel) (by decide +kernel))
theorem se_X12_canGo : Cond.selects yX12_canGo.cls yX12_canGo yX12_canGo ∈ TW := (TWp 49 (by decide +kernel) (by decide +kernel))
set_option maxRecDepth 16384 in
theorem CKX12_canGo {rm : Room} (q : ({ frames := 2, cells := 0, slots := 0, locals := 43 } : Room).frames + 1 ≤ rm.frames ∧ 8 + (5 + 11) + ({ frames := 2, cells := 0, slots := 0, locals := 43 } : Room).locals ≤ rm.locals) : CK rm yX12_canGo cX12_canGo 5 (some .boolean) ({ frames := 2, cells := 0, slots := 0, locals := 43 } : Room) 1 := ⟨(TWt 1420 rfl (by decide +kernel)), (TWt 7 (by decide +kernel) (by decide +kernel)), ⟨by decide, by decide⟩, by decide +kernel, q.1, q.2⟩
theorem in_X12_state : Cond.instanceMethod yX12_state ∈ TW := (TWt 1415 (by decide +kernel) (by decide +kernel))
theorem se_X12_state : Cond.selects yX12_state.cls yX12_state yX12_state ∈ TW := (TWp 48 (by decide +kernel) (by decide +kernel))
set_option maxRecDepth 16384 in
theorem CKX12_state {rm : Room} (q : ({ frames := 3, cells := 0, slots := 0, locals := 67 } : Room).frames + 1 ≤ rm.frames ∧ 8 + (2 + 11) + ({ frames := 3, cells := 0, slots := 0, locals := 67 } : Room).locals ≤ rm.locals) : CK rm yX12_state cX12_state 2 (some .int) ({ frames := 3, cells := 0, slots := 0, locals := 67 } : Room) 1 := ⟨(TWt 1416 rfl (by decide +kernel)), (TWt 7 (by decide +kernel) (by decide +kernel)), ⟨by decide, by decide⟩, by decide +kernel, q.1, q.2⟩
theorem in_X12_goTo : Cond.instanceMethod yX12_goTo ∈ TW := (TWt 1442 (by decide +kernel) (by decide +kernel))
theorem se_X12_goTo : Cond.selects yX12_goTo.cls yX12_goTo yX12_goTo ∈ TW := (TWp 54 (by decide +kernel) (by decide +kernel))
set_option maxRecDepth 16384 in
theorem CKX12_goTo {rm : Room} (q : ({ frames := 0, cells := 0, slots := 0, locals := 0 } : Room).frames + 1 ≤ rm.frames ∧ 8 + (3 + 11) + ({ frames := 0, cells := 0, slots := 0, locals := 0 } : Room).locals ≤ rm.locals) : CK rm yX12_goTo cX12_goTo 3 none ({ frames := 0, cells := 0, slots := 0, locals := 0 } : Room) 2 := ⟨(TWt 1443 rfl (by decide +kernel)), (TWt 7 (by decide +kernel) (by decide +kernel)), ⟨by decide, by decide⟩, by decide +kernel, q.1, q.2⟩
theorem in_X12_set : Cond.instanceMethod yX12_set ∈ TW := (TWt 1458 (by decide +kernel) (by decide +kernel))
theorem se_X12_set : Cond.selects yX12_set.cls yX12_set yX12_set ∈ TW := (TWp 58 (by decide +kernel) (by decide +kernel))
set_option maxRecDepth 16384 in
theorem CKX12_set {rm : Room} (q : ({ frames := 0, cells := 0, slots := 0, locals := 0 } : Room).frames + 1 ≤ rm.frames ∧ 8 + (4 + 11) + ({ frames := 0, cells := 0, slots := 0, locals := 0 } : Room).locals ≤ rm.locals) : CK rm yX12_set cX12_set 4 none ({ frames := 0, cells := 0, slots := 0, locals := 0 } : Room) 3 := ⟨(TWt 1459 rfl (by decide +kernel)), (TWt 7 (by decide +kernel) (by decide +kernel)), ⟨by decide, by decide⟩, by decide +kernel, q.1, q.2⟩
theorem in_X12_newThing : Cond.instanceMethod yX12_newThing ∈ TW := (TWt 1462 (by decide +kernel) (by decide +kernel))
theorem se_X12_newThing : Cond.selects yX12_newThing.cls yX12_newThing yX12_newThing ∈ TW := (TWp 59 (by decide +kernel) (by decide +kernel))
set_option maxRecDepth 16384 in
theorem CKX12_newThing {rm : Room} (q : ({ frames := 0, cells := 0, slots := 0, locals := 0 } : Room).frames + 1 ≤ rm.frames ∧ 8 + (5 + 11) + ({ frames := 0, cells := 0, slots := 0, locals := 0 } : Room).locals ≤ rm.locals) : CK rm yX12_newThing cX12_newThing 5 (some .int) ({ frames := 0, cells := 0, slots := 0, locals := 0 } : Room) 2 := ⟨(TWt 1463 rfl (by decide +kernel)), (TWt 7 (by decide +kernel) (by decide +kernel)), ⟨by decide, by decide⟩, by decide +kernel, q.1, q.2⟩
theorem in_X12_why : Cond.instanceMethod yX12_why ∈ TW := (TWt 1450 (by decide +kernel) (by decide +kernel))
theorem se_X12_why : Cond.selects yX12_why.cls yX12_why yX12_why ∈ TW := (TWp 56 (by decide +kernel) (by decide +kernel))
set_option maxRecDepth 16384 in
theorem CKX12_why {rm : Room} (q : ({ frames := 1, cells := 0, slots := 0, locals := 25 } : Room).frames + 1 ≤ rm.frames ∧ 8 + (7 + 11) + ({ frames := 1, cells := 0, slots := 0, locals := 25 } : Room).locals ≤ rm.locals) : CK rm yX12_why cX12_why 7 (some .int) ({ frames := 1, cells := 0, slots := 0, locals := 25 } : Room) 6 := ⟨(TWt 1451 rfl (by decide +kernel)), (TWt 7 (by decide +kernel) (by decide +kernel)), ⟨by decide, by decide⟩, by decide +kernel, q.1, q.2⟩
theorem in_X12_work : Cond.instanceMethod yX12_work ∈ TW := (TWt 1454 (by decide +kernel) (by decide +kernel))
theorem se_X12_work : Cond.selects yX12_work.cls yX12_work yX12_work ∈ TW := (TWp 57 (by decide +kernel) (by decide +kernel))
set_option maxRecDepth 16384 in
theorem CKX12_work {rm : Room} (q : ({ frames := 1, cells := 0, slots := 0, locals := 24 } : Room).frames + 1 ≤ rm.frames ∧ 8 + (7 + 11) + ({ frames := 1, cells := 0, slots := 0, locals := 24 } : Room).locals ≤ rm.locals) : CK rm yX12_work cX12_work 7 none ({ frames := 1, cells := 0, slots := 0, locals := 24 } : Room) 5 := ⟨(TWt 1455 rfl (by decide +kernel)), (TWt 7 (by decide +kernel) (by decide +kernel)), ⟨by decide, by decide⟩, by decide +kernel, q.1, q.2⟩
theorem in_X12_workPlain : Cond.instanceMethod yX12_workPlain ∈ TW := (TWt 1466 (by decide +kernel) (by decide +kernel))
theorem se_X12_workPlain : Cond.selects yX12_workPlain.cls yX12_workPlain yX12_workPlain ∈ TW := (TWp 60 (by decide +kernel) (by decide +kernel))
set_option maxRecDepth 16384 in
theorem CKX12_workPlain {rm : Room} (q : ({ frames := 1, cells := 0, slots := 0, locals := 24 } : Room).frames + 1 ≤ rm.frames ∧ 8 + (8 + 11) + ({ frames := 1, cells := 0, slots := 0, locals := 24 } : Room).locals ≤ rm.locals) : CK rm yX12_workPlain cX12_workPlain 8 none ({ frames := 1, cells := 0, slots := 0, locals := 24 } : Room) 4 := ⟨(TWt 1467 rfl (by decide +kernel)), (TWt 7 (by decide +kernel) (by decide +kernel)), ⟨by decide, by decide⟩, by decide +kernel, q.1, q.2⟩
theorem in_X12_step : Cond.instanceMethod yX12_step ∈ TW := (TWt 1438 (by decide +kernel) (by decide +kernel))
theorem se_X12_step : Cond.selects yX12_step.cls yX12_step yX12_step ∈ TW := (TWp 53 (by decide +kernel) (by decide +kernel))
set_option maxRecDepth 16384 in
theorem CKX12_step {rm : Room} (q : ({ frames := 3, cells := 0, slots := 0, locals := 78 } : Room).frames + 1 ≤ rm.frames ∧ 8 + (3 + 11) + ({ frames := 3, cells := 0, slots := 0, locals := 78 } : Room).locals ≤ rm.locals) : CK rm yX12_step cX12_step 3 none ({ frames := 3, cells := 0, slots := 0, locals := 78 } : Room) 1 := ⟨(TWt 1439 rfl (by decide +kernel)), (TWt 7 (by decide +kernel) (by decide +kernel)), ⟨by decide, by decide⟩, by decide +kernel, q.1, q.2⟩
theorem in_X12_instruct : Cond.instanceMethod yX12_instruct ∈ TW := (TWt 1446 (by decide +kernel) (by decide +kernel))
theorem se_X12_instruct : Cond.selects yX12_instruct.cls yX12_instruct yX12_instruct ∈ TW := (TWp 55 (by decide +kernel) (by decide +kernel))
set_option maxRecDepth 16384 in
theorem CKX12_instruct {rm : Room} (q : ({ frames := 2, cells := 0, slots := 0, locals := 51 } : Room).frames + 1 ≤ rm.frames ∧ 8 + (8 + 11) + ({ frames := 2, cells := 0, slots := 0, locals := 51 } : Room).locals ≤ rm.locals) : CK rm yX12_instruct cX12_instruct 8 none ({ frames := 2, cells := 0, slots := 0, locals := 51 } : Room) 2 := ⟨(TWt 1447 rfl (by decide +kernel)), (TWt 7 (by decide +kernel) (by decide +kernel)), ⟨by decide, by decide⟩, by decide +kernel, q.1, q.2⟩
theorem in_X12_free : Cond.instanceMethod yX12_free ∈ TW := (TWt 1470 (by decide +kernel) (by decide +kernel))
theorem se_X12_free : Cond.selects yX12_free.cls yX12_free yX12_free ∈ TW := (TWp 61 (by decide +kernel) (by decide +kernel))
set_option maxRecDepth 16384 in
theorem CKX12_free {rm : Room} (q : ({ frames := 3, cells := 0, slots := 0, locals := 67 } : Room).frames + 1 ≤ rm.frames ∧ 8 + (3 + 11) + ({ frames := 3, cells := 0, slots := 0, locals := 67 } : Room).locals ≤ rm.locals) : CK rm yX12_free cX12_free 3 (some .int) ({ frames := 3, cells := 0, slots := 0, locals := 67 } : Room) 1 := ⟨(TWt 1471 rfl (by decide +kernel)), (TWt 7 (by decide +kernel) (by decide +kernel)), ⟨by decide, by decide⟩, by decide +kernel, q.1, q.2⟩
theorem in_X12_keep : Cond.instanceMethod yX12_keep ∈ TW := (TWt 1411 (by decide +kernel) (by decide +kernel))
theorem se_X12_keep : Cond.selects yX12_keep.cls yX12_keep yX12_keep ∈ TW := (TWp 47 (by decide +kernel) (by decide +kernel))
set_option maxRecDepth 16384 in
theorem CKX12_keep {rm : Room} (q : ({ frames := 4, cells := 0, slots := 0, locals := 88 } : Room).frames + 1 ≤ rm.frames ∧ 8 + (3 + 11) + ({ frames := 4, cells := 0, slots := 0, locals := 88 } : Room).locals ≤ rm.locals) : CK rm yX12_keep cX12_keep 3 none ({ frames := 4, cells := 0, slots := 0, locals := 88 } : Room) 1 := ⟨(TWt 1412 rfl (by decide +kernel)), (TWt 7 (by decide +kernel) (by decide +kernel)), ⟨by decide, by decide⟩, by decide +kernel, q.1, q.2⟩
theorem in_X12_stepKept : Cond.instanceMethod yX12_stepKept ∈ TW := (TWt 1434 (by decide +kernel) (by decide +kernel))
theorem se_X12_stepKept : Cond.selects yX12_stepKept.cls yX12_stepKept yX12_stepKept ∈ TW := (TWp 52 (by decide +kernel) (by decide +kernel))
set_option maxRecDepth 16384 in
theorem CKX12_stepKept {rm : Room} (q : ({ frames := 5, cells := 0, slots := 0, locals := 110 } : Room).frames + 1 ≤ rm.frames ∧ 8 + (4 + 11) + ({ frames := 5, cells := 0, slots := 0, locals := 110 } : Room).locals ≤ rm.locals) : CK rm yX12_stepKept cX12_stepKept 4 none ({ frames := 5, cells := 0, slots := 0, locals := 110 } : Room) 1 := ⟨(TWt 1435 rfl (by decide +kernel)), (TWt 7 (by decide +kernel) (by decide +kernel)), ⟨by decide, by decide⟩, by decide +kernel, q.1, q.2⟩
theorem in_X12_ending : Cond.instanceMethod yX12_ending ∈ TW := (TWt 1474 (by decide +kernel) (by decide +kernel))
theorem se_X12_ending : Cond.selects yX12_ending.cls yX12_ending yX12_ending ∈ TW := (TWp 62 (by decide +kernel) (by decide +kernel))
set_option maxRecDepth 16384 in
theorem CKX12_ending {rm : Room} (q : ({ frames := 4, cells := 0, slots := 0, locals := 89 } : Room).frames + 1 ≤ rm.frames ∧ 8 + (3 + 11) + ({ frames := 4, cells := 0, slots := 0, locals := 89 } : Room).locals ≤ rm.locals) : CK rm yX12_ending cX12_ending 3 (some .int) ({ frames := 4, cells := 0, slots := 0, locals := 89 } : Room) 0 := ⟨(TWt 1475 rfl (by decide +kernel)), (TWt 7 (by decide +kernel) (by decide +kernel)), ⟨by decide, by decide⟩, by decide +kernel, q.1, q.2⟩
theorem in_X12_run : Cond.instanceMethod yX12_run ∈ TW := (TWt 1402 (by decide +kernel) (by decide +kernel))
theorem se_X12_run : Cond.selects yX12_run.cls yX12_run yX12_run ∈ TW := (TWt 1403 (by decide +kernel) (by decide +kernel))
set_option maxRecDepth 16384 in
theorem CKX12_run {rm : Room} (q : ({ frames := 6, cells := 0, slots := 0, locals := 133 } : Room).frames + 1 ≤ rm.frames ∧ 8 + (3 + 11) + ({ frames := 6, cells := 0, slots := 0, locals := 133 } : Room).locals ≤ rm.locals) : CK rm yX12_run cX12_run 3 (some .int) ({ frames := 6, cells := 0, slots := 0, locals := 133 } : Room) 0 := ⟨(TWt 1404 rfl (by decide +kernel)), (TWt 7 (by decide +kernel) (by decide +kernel)), ⟨by decide, by decide⟩, by decide +kernel, q.1, q.2⟩
theorem in_X12_told : Cond.instanceMethod yX12_told ∈ TW := (TWt 1477 (by decide +kernel) (by decide +kernel))
theorem se_X12_told : Cond.selects yX12_told.cls yX12_told yX12_told ∈ TW := (TWt 1478 (by decide +kernel) (by decide +kernel))
set_option maxRecDepth 16384 in
theorem CKX12_told {rm : Room} (q : ({ frames := 0, cells := 0, slots := 0, locals := 0 } : Room).frames + 1 ≤ rm.frames ∧ 8 + (2 + 11) + ({ frames := 0, cells := 0, slots := 0, locals := 0 } : Room).locals ≤ rm.locals) : CK rm yX12_told cX12_told 2 (some .int) ({ frames := 0, cells := 0, slots := 0, locals := 0 } : Room) 1 := ⟨(TWt 1479 rfl (by decide +kernel)), (TWt 7 (by decide +kernel) (by decide +kernel)), ⟨by decide, by decide⟩, by decide +kernel, q.1, q.2⟩
theorem in_X12_change : Cond.instanceMethod yX12_change ∈ TW := (TWt 1481 (by decide +kernel) (by decide +kernel))
theorem se_X12_change : Cond.selects yX12_change.cls yX12_change yX12_change ∈ TW := (TWt 1482 (by decide +kernel) (by decide +kernel))
set_option maxRecDepth 16384 in
theorem CKX12_change {rm : Room} (q : ({ frames := 1, cells := 0, slots := 0, locals := 25 } : Room).frames + 1 ≤ rm.frames ∧ 8 + (3 + 11) + ({ frames := 1, cells := 0, slots := 0, locals := 25 } : Room).locals ≤ rm.locals) : CK rm yX12_change cX12_change 3 (some .int) ({ frames := 1, cells := 0, slots := 0, locals := 25 } : Room) 2 := ⟨(TWt 1483 rfl (by decide +kernel)), (TWt 7 (by decide +kernel) (by decide +kernel)), ⟨by decide, by decide⟩, by decide +kernel, q.1, q.2⟩
theorem in_X12_step_ : Cond.instanceMethod yX12_step_ ∈ TW := (TWt 1485 (by decide +kernel) (by decide +kernel))
theorem se_X12_step_ : Cond.selects yX12_step_.cls yX12_step_ yX12_step_ ∈ TW := (TWt 1486 (by decide +kernel) (by decide +kernel))
set_option maxRecDepth 16384 in
theorem CKX12_step_ {rm : Room} (q : ({ frames := 1, cells := 0, slots := 0, locals := 25 } : Room).frames + 1 ≤ rm.frames ∧ 8 + (3 + 11) + ({ frames := 1, cells := 0, slots := 0, locals := 25 } : Room).locals ≤ rm.locals) : CK rm yX12_step_ cX12_step_ 3 (some .int) ({ frames := 1, cells := 0, slots := 0, locals := 25 } : Room) 2 := ⟨(TWt 1487 rfl (by decide +kernel)), (TWt 7 (by decide +kernel) (by decide +kernel)), ⟨by decide, by decide⟩, by decide +kernel, q.1, q.2⟩
theorem in_X12_toldThread : Cond.instanceMethod yX12_toldThread ∈ TW := (TWt 1494 (by decide +kernel) (by decide +kernel))
theorem se_X12_toldThread : Cond.selects yX12_toldThread.cls yX12_toldThread yX12_toldThread ∈ TW := (TWp 63 (by decide +kernel) (by decide +kernel))
set_option maxRecDepth 16384 in
theorem CKX12_toldThread {rm : Room} (q : ({ frames := 0, cells := 0, slots := 0, locals := 0 } : Room).frames + 1 ≤ rm.frames ∧ 8 + (5 + 11) + ({ frames := 0, cells := 0, slots := 0, locals := 0 } : Room).locals ≤ rm.locals) : CK rm yX12_toldThread cX12_toldThread 5 (some .int) ({ frames := 0, cells := 0, slots := 0, locals := 0 } : Room) 2 := ⟨(TWt 1495 rfl (by decide +kernel)), (TWt 7 (by decide +kernel) (by decide +kernel)), ⟨by decide, by decide⟩, by decide +kernel, q.1, q.2⟩
theorem in_X12_play : Cond.instanceMethod yX12_play ∈ TW := (TWt 1489 (by decide +kernel) (by decide +kernel))
theorem se_X12_play : Cond.selects yX12_play.cls yX12_play yX12_play ∈ TW := (TWt 1490 (by decide +kernel) (by decide +kernel))
set_option maxRecDepth 16384 in
theorem CKX12_play {rm : Room} (q : ({ frames := 4, cells := 0, slots := 0, locals := 100 } : Room).frames + 1 ≤ rm.frames ∧ 8 + (6 + 11) + ({ frames := 4, cells := 0, slots := 0, locals := 100 } : Room).locals ≤ rm.locals) : CK rm yX12_play cX12_play 6 (some .int) ({ frames := 4, cells := 0, slots := 0, locals := 100 } : Room) 2 := ⟨(TWt 1491 rfl (by decide +kernel)), (TWt 7 (by decide +kernel) (by decide +kernel)), ⟨by decide, by decide⟩, by decide +kernel, q.1, q.2⟩
theorem in_X12_ended : Cond.instanceMethod yX12_ended ∈ TW := (TWt 1497 (by decide +kernel) (by decide +kernel))
theorem se_X12_ended : Cond.selects yX12_ended.cls yX12_ended yX12_ended ∈ TW := (TWt 1498 (by decide +kernel) (by decide +kernel))
set_option maxRecDepth 16384 in
theorem CKX12_ended {rm : Room} (q : ({ frames := 0, cells := 0, slots := 0, locals := 0 } : Room).frames + 1 ≤ rm.frames ∧ 8 + (1 + 11) + ({ frames := 0, cells := 0, slots := 0, locals := 0 } : Room).locals ≤ rm.locals) : CK rm yX12_ended cX12_ended 1 (some .int) ({ frames := 0, cells := 0, slots := 0, locals := 0 } : Room) 0 := ⟨(TWt 1499 rfl (by decide +kernel)), (TWt 7 (by decide +kernel) (by decide +kernel)), ⟨by decide, by decide⟩, by decide +kernel, q.1, q.2⟩
theorem in_X12_to : Cond.instanceMethod yX12_to ∈ TW := (TWt 1501 (by decide +kernel) (by decide +kernel))
theorem se_X12_to : Cond.selects yX12_to.cls yX12_to yX12_to ∈ TW := (TWt 1502 (by decide +kernel) (by decide +kernel))
set_option maxRecDepth 16384 in
theorem CKX12_to {rm : Room} (q : ({ frames := 1, cells := 0, slots := 0, locals := 25 } : Room).frames + 1 ≤ rm.frames ∧ 8 + (2 + 11) + ({ frames := 1, cells := 0, slots := 0, locals := 25 } : Room).locals ≤ rm.locals) : CK rm yX12_to cX12_to 2 (some .int) ({ frames := 1, cells := 0, slots := 0, locals := 25 } : Room) 1 := ⟨(TWt 1503 rfl (by decide +kernel)), (TWt 7 (by decide +kernel) (by decide +kernel)), ⟨by decide, by decide⟩, by decide +kernel, q.1, q.2⟩
theorem in_X12_back : Cond.instanceMethod yX12_back ∈ TW := (TWt 1505 (by decide +kernel) (by decide +kernel))
theorem se_X12_back : Cond.selects yX12_back.cls yX12_back yX12_back ∈ TW := (TWt 1506 (by decide +kernel) (by decide +kernel))
set_option maxRecDepth 16384 in
theorem CKX12_back {rm : Room} (q : ({ frames := 0, cells := 0, slots := 0, locals := 0 } : Room).frames + 1 ≤ rm.frames ∧ 8 + (2 + 11) + ({ frames := 0, cells := 0, slots := 0, locals := 0 } : Room).locals ≤ rm.locals) : CK rm yX12_back cX12_back 2 (some .int) ({ frames := 0, cells := 0, slots := 0, locals := 0 } : Room) 1 := ⟨(TWt 1507 rfl (by decide +kernel)), (TWt 7 (by decide +kernel) (by decide +kernel)), ⟨by decide, by decide⟩, by decide +kernel, q.1, q.2⟩
theorem in_X12_value : Cond.instanceMethod yX12_value ∈ TW := (TWt 1509 (by decide +kernel) (by decide +kernel))
theorem se_X12_value : Cond.selects yX12_value.cls yX12_value yX12_value ∈ TW := (TWt 1510 (by decide +kernel) (by decide +kernel))
set_option maxRecDepth 16384 in
theorem CKX12_value {rm : Room} (q : ({ frames := 1, cells := 0, slots := 0, locals := 25 } : Room).frames + 1 ≤ rm.frames ∧ 8 + (6 + 11) + ({ frames := 1, cells := 0, slots := 0, locals := 25 } : Room).locals ≤ rm.locals) : CK rm yX12_value cX12_value 6 (some .int) ({ frames := 1, cells := 0, slots := 0, locals := 25 } : Room) 3 := ⟨(TWt 1511 rfl (by decide +kernel)), (TWt 7 (by decide +kernel) (by decide +kernel)), ⟨by decide, by decide⟩, by decide +kernel, q.1, q.2⟩
theorem in_X12_isThing : Cond.instanceMethod yX12_isThing ∈ TW := (TWt 1518 (by decide +kernel) (by decide +kernel))
theorem se_X12_isThing : Cond.selects yX12_isThing.cls yX12_isThing yX12_isThing ∈ TW := (TWp 64 (by decide +kernel) (by decide +kernel))
set_option maxRecDepth 16384 in
theorem CKX12_isThing {rm : Room} (q : ({ frames := 0, cells := 0, slots := 0, locals := 0 } : Room).frames + 1 ≤ rm.frames ∧ 8 + (2 + 11) + ({ frames := 0, cells := 0, slots := 0, locals := 0 } : Room).locals ≤ rm.locals) : CK rm yX12_isThing cX12_isThing 2 (some .boolean) ({ frames := 0, cells := 0, slots := 0, locals := 0 } : Room) 1 := ⟨(TWt 1519 rfl (by decide +kernel)), (TWt 7 (by decide +kernel) (by decide +kernel)), ⟨by decide, by decide⟩, by decide +kernel, q.1, q.2⟩
theorem in_X12_thing : Cond.instanceMethod yX12_thing ∈ TW := (TWt 1513 (by decide +kernel) (by decide +kernel))
theorem se_X12_thing : Cond.selects yX12_thing.cls yX12_thing yX12_thing ∈ TW := (TWt 1514 (by decide +kernel) (by decide +kernel))
set_option maxRecDepth 16384 in
theorem CKX12_thing {rm : Room} (q : ({ frames := 1, cells := 0, slots := 0, locals := 25 } : Room).frames + 1 ≤ rm.frames ∧ 8 + (5 + 11) + ({ frames := 1, cells := 0, slots := 0, locals := 25 } : Room).locals ≤ rm.locals) : CK rm yX12_thing cX12_thing 5 (some .int) ({ frames := 1, cells := 0, slots := 0, locals := 25 } : Room) 2 := ⟨(TWt 1515 rfl (by decide +kernel)), (TWt 7 (by decide +kernel) (by decide +kernel)), ⟨by decide, by decide⟩, by decide +kernel, q.1, q.2⟩
theorem in_X12_place : Cond.instanceMethod yX12_place ∈ TW := (TWt 1521 (by decide +kernel) (by decide +kernel))
theorem se_X12_place : Cond.selects yX12_place.cls yX12_place yX12_place ∈ TW := (TWt 1522 (by decide +kernel) (by decide +kernel))
set_option maxRecDepth 16384 in
theorem CKX12_place {rm : Room} (q : ({ frames := 1, cells := 0, slots := 0, locals := 25 } : Room).frames + 1 ≤ rm.frames ∧ 8 + (4 + 11) + ({ frames := 1, cells := 0, slots := 0, locals := 25 } : Room).locals ≤ rm.locals) : CK rm yX12_place cX12_place 4 (some .int) ({ frames := 1, cells := 0, slots := 0, locals := 25 } : Room) 2 := ⟨(TWt 1523 rfl (by decide +kernel)), (TWt 7 (by decide +kernel) (by decide +kernel)), ⟨by decide, by decide⟩, by decide +kernel, q.1, q.2⟩
theorem in_X12_thread : Cond.instanceMethod yX12_thread ∈ TW := (TWt 1525 (by decide +kernel) (by decide +kernel))
theorem se_X12_thread : Cond.selects yX12_thread.cls yX12_thread yX12_thread ∈ TW := (TWt 1526 (by decide +kernel) (by decide +kernel))
set_option maxRecDepth 16384 in
theorem CKX12_thread {rm : Room} (q : ({ frames := 1, cells := 0, slots := 0, locals := 25 } : Room).frames + 1 ≤ rm.frames ∧ 8 + (3 + 11) + ({ frames := 1, cells := 0, slots := 0, locals := 25 } : Room).locals ≤ rm.locals) : CK rm yX12_thread cX12_thread 3 (some .int) ({ frames := 1, cells := 0, slots := 0, locals := 25 } : Room) 2 := ⟨(TWt 1527 rfl (by decide +kernel)), (TWt 7 (by decide +kernel) (by decide +kernel)), ⟨by decide, by decide⟩, by decide +kernel, q.1, q.2⟩
theorem in_X12_last : Cond.instanceMethod yX12_last ∈ TW := (TWt 1529 (by decide +kernel) (by decide +kernel))
theorem se_X12_last : Cond.selects yX12_last.cls yX12_last yX12_last ∈ TW := (TWt 1530 (by decide +kernel) (by decide +kernel))
set_option maxRecDepth 16384 in
theorem CKX12_last {rm : Room} (q : ({ frames := 1, cells := 0, slots := 0, locals := 25 } : Room).frames + 1 ≤ rm.frames ∧ 8 + (5 + 11) + ({ frames := 1, cells := 0, slots := 0, locals := 25 } : Room).locals ≤ rm.locals) : CK rm yX12_last cX12_last 5 (some .int) ({ frames := 1, cells := 0, slots := 0, locals := 25 } : Room) 2 := ⟨(TWt 1531 rfl (by decide +kernel)), (TWt 7 (by decide +kernel) (by decide +kernel)), ⟨by decide, by decide⟩, by decide +kernel, q.1, q.2⟩
theorem in_X12_next : Cond.instanceMethod yX12_next ∈ TW := (TWt 1533 (by decide +kernel) (by decide +kernel))
theorem se_X12_next : Cond.selects yX12_next.cls yX12_next yX12_next ∈ TW := (TWt 1534 (by decide +kernel) (by decide +kernel))
set_option maxRecDepth 16384 in
theorem CKX12_next {rm : Room} (q : ({ frames := 1, cells := 0, slots := 0, locals := 25 } : Room).frames + 1 ≤ rm.frames ∧ 8 + (4 + 11) + ({ frames := 1, cells := 0, slots := 0, locals := 25 } : Room).locals ≤ rm.locals) : CK rm yX12_next cX12_next 4 (some .int) ({ frames := 1, cells := 0, slots := 0, locals := 25 } : Room) 2 := ⟨(TWt 1535 rfl (by decide +kernel)), (TWt 7 (by decide +kernel) (by decide +kernel)), ⟨by decide, by decide⟩, by decide +kernel, q.1, q.2⟩
theorem in_X12_when : Cond.instanceMethod yX12_when ∈ TW := (TWt 1537 (by decide +kernel) (by decide +kernel))
theorem se_X12_when : Cond.selects yX12_when.cls yX12_when yX12_when ∈ TW := (TWt 1538 (by decide +kernel) (by decide +kernel))
set_option maxRecDepth 16384 in
theorem CKX12_when {rm : Room} (q : ({ frames := 1, cells := 0, slots := 0, locals := 25 } : Room).frames + 1 ≤ rm.frames ∧ 8 + (10 + 11) + ({ frames := 1, cells := 0, slots := 0, locals := 25 } : Room).locals ≤ rm.locals) : CK rm yX12_when cX12_when 10 (some .int) ({ frames := 1, cells := 0, slots := 0, locals := 25 } : Room) 4 := ⟨(TWt 1539 rfl (by decide +kernel)), (TWt 7 (by decide +kernel) (by decide +kernel)), ⟨by decide, by decide⟩, by decide +kernel, q.1, q.2⟩
theorem in_X12_isDirect : Cond.instanceMethod yX12_isDirect ∈ TW := (TWt 1551 (by decide +kernel) (by decide +kernel))
theorem se_X12_isDirect : Cond.selects yX12_isDirect.cls yX12_isDirect yX12_isDirect ∈ TW := (TWp 66 (by decide +kernel) (by decide +kernel))
set_option maxRecDepth 16384 in
theorem CKX12_isDirect {rm : Room} (q : ({ frames := 1, cells := 0, slots := 0, locals := 25 } : Room).frames + 1 ≤ rm.frames ∧ 8 + (5 + 11) + ({ frames := 1, cells := 0, slots := 0, locals := 25 } : Room).locals ≤ rm.locals) : CK rm yX12_isDirect cX12_isDirect 5 (some .boolean) ({ frames := 1, cells := 0, slots := 0, locals := 25 } : Room) 2 := ⟨(TWt 1552 rfl (by decide +kernel)), (TWt 7 (by decide +kernel) (by decide +kernel)), ⟨by decide, by decide⟩, by decide +kernel, q.1, q.2⟩
theorem in_X12_isWaking : Cond.instanceMethod yX12_isWaking ∈ TW := (TWt 1555 (by decide +kernel) (by decide +kernel))
theorem se_X12_isWaking : Cond.selects yX12_isWaking.cls yX12_isWaking yX12_isWaking ∈ TW := (TWp 67 (by decide +kernel) (by decide +kernel))
set_option maxRecDepth 16384 in
theorem CKX12_isWaking {rm : Room} (q : ({ frames := 0, cells := 0, slots := 0, locals := 0 } : Room).frames + 1 ≤ rm.frames ∧ 8 + (6 + 11) + ({ frames := 0, cells := 0, slots := 0, locals := 0 } : Room).locals ≤ rm.locals) : CK rm yX12_isWaking cX12_isWaking 6 (some .boolean) ({ frames := 0, cells := 0, slots := 0, locals := 0 } : Room) 2 := ⟨(TWt 1556 rfl (by decide +kernel)), (TWt 7 (by decide +kernel) (by decide +kernel)), ⟨by decide, by decide⟩, by decide +kernel, q.1, q.2⟩
theorem in_X12_findAhead : Cond.instanceMethod yX12_findAhead ∈ TW := (TWt 1547 (by decide +kernel) (by decide +kernel))
theorem se_X12_findAhead : Cond.selects yX12_findAhead.cls yX12_findAhead yX12_findAhead ∈ TW := (TWp 65 (by decide +kernel) (by decide +kernel))
set_option maxRecDepth 16384 in
theorem CKX12_findAhead {rm : Room} (q : ({ frames := 2, cells := 0, slots := 0, locals := 49 } : Room).frames + 1 ≤ rm.frames ∧ 8 + (4 + 11) + ({ frames := 2, cells := 0, slots := 0, locals := 49 } : Room).locals ≤ rm.locals) : CK rm yX12_findAhead cX12_findAhead 4 none ({ frames := 2, cells := 0, slots := 0, locals := 49 } : Room) 0 := ⟨(TWt 1548 rfl (by decide +kernel)), (TWt 7 (by decide +kernel) (by decide +kernel)), ⟨by decide, by decide⟩, by decide +kernel, q.1, q.2⟩
theorem in_X12_ahead : Cond.instanceMethod yX12_ahead ∈ TW := (TWt 1542 (by decide +kernel) (by decide +kernel))
theorem se_X12_ahead : Cond.selects yX12_ahead.cls yX12_ahead yX12_ahead ∈ TW := (TWt 1543 (by decide +kernel) (by decide +kernel))
set_option maxRecDepth 16384 in
theorem CKX12_ahead {rm : Room} (q : ({ frames := 3, cells := 0, slots := 0, locals := 72 } : Room).frames + 1 ≤ rm.frames ∧ 8 + (3 + 11) + ({ frames := 3, cells := 0, slots := 0, locals := 72 } : Room).locals ≤ rm.locals) : CK rm yX12_ahead cX12_ahead 3 (some .int) ({ frames := 3, cells := 0, slots := 0, locals := 72 } : Room) 2 := ⟨(TWt 1544 rfl (by decide +kernel)), (TWt 7 (by decide +kernel) (by decide +kernel)), ⟨by decide, by decide⟩, by decide +kernel, q.1, q.2⟩
theorem in_X12_racing : Cond.instanceMethod yX12_racing ∈ TW := (TWt 1563 (by decide +kernel) (by decide +kernel))
theorem se_X12_racing : Cond.selects yX12_racing.cls yX12_racing yX12_racing ∈ TW := (TWp 68 (by decide +kernel) (by decide +kernel))
set_option maxRecDepth 16384 in
theorem CKX12_racing {rm : Room} (q : ({ frames := 0, cells := 0, slots := 0, locals := 0 } : Room).frames + 1 ≤ rm.frames ∧ 8 + (5 + 11) + ({ frames := 0, cells := 0, slots := 0, locals := 0 } : Room).locals ≤ rm.locals) : CK rm yX12_racing cX12_racing 5 (some .int) ({ frames := 0, cells := 0, slots := 0, locals := 0 } : Room) 2 := ⟨(TWt 1564 rfl (by decide +kernel)), (TWt 7 (by decide +kernel) (by decide +kernel)), ⟨by decide, by decide⟩, by decide +kernel, q.1, q.2⟩
theorem in_X12_race : Cond.instanceMethod yX12_race ∈ TW := (TWt 1558 (by decide +kernel) (by decide +kernel))
theorem se_X12_race : Cond.selects yX12_race.cls yX12_race yX12_race ∈ TW := (TWt 1559 (by decide +kernel) (by decide +kernel))
set_option maxRecDepth 16384 in
theorem CKX12_race {rm : Room} (q : ({ frames := 3, cells := 0, slots := 0, locals := 72 } : Room).frames + 1 ≤ rm.frames ∧ 8 + (7 + 11) + ({ frames := 3, cells := 0, slots := 0, locals := 72 } : Room).locals ≤ rm.locals) : CK rm yX12_race cX12_race 7 (some .int) ({ frames := 3, cells := 0, slots := 0, locals := 72 } : Room) 2 := ⟨(TWt 1560 rfl (by decide +kernel)), (TWt 7 (by decide +kernel) (by decide +kernel)), ⟨by decide, by decide⟩, by decide +kernel, q.1, q.2⟩
theorem in_X12_differ : Cond.instanceMethod yX12_differ ∈ TW := (TWt 1566 (by decide +kernel) (by decide +kernel))
theorem se_X12_differ : Cond.selects yX12_differ.cls yX12_differ yX12_differ ∈ TW := (TWt 1567 (by decide +kernel) (by decide +kernel))
set_option maxRecDepth 16384 in
theorem CKX12_differ {rm : Room} (q : ({ frames := 1, cells := 0, slots := 0, locals := 25 } : Room).frames + 1 ≤ rm.frames ∧ 8 + (5 + 11) + ({ frames := 1, cells := 0, slots := 0, locals := 25 } : Room).locals ≤ rm.locals) : CK rm yX12_differ cX12_differ 5 (some .int) ({ frames := 1, cells := 0, slots := 0, locals := 25 } : Room) 2 := ⟨(TWt 1568 rfl (by decide +kernel)), (TWt 7 (by decide +kernel) (by decide +kernel)), ⟨by decide, by decide⟩, by decide +kernel, q.1, q.2⟩
theorem in_X12_tryRun : Cond.instanceMethod yX12_tryRun ∈ TW := (TWt 1575 (by decide +kernel) (by decide +kernel))
theorem se_X12_tryRun : Cond.selects yX12_tryRun.cls yX12_tryRun yX12_tryRun ∈ TW := (TWp 69 (by decide +kernel) (by decide +kernel))
set_option maxRecDepth 16384 in
theorem CKX12_tryRun {rm : Room} (q : ({ frames := 4, cells := 0, slots := 0, locals := 100 } : Room).frames + 1 ≤ rm.frames ∧ 8 + (3 + 11) + ({ frames := 4, cells := 0, slots := 0, locals := 100 } : Room).locals ≤ rm.locals) : CK rm yX12_tryRun cX12_tryRun 3 (some .boolean) ({ frames := 4, cells := 0, slots := 0, locals := 100 } : Room) 0 := ⟨(TWt 1576 rfl (by decide +kernel)), (TWt 7 (by decide +kernel) (by decide +kernel)), ⟨by decide, by decide⟩, by decide +kernel, q.1, q.2⟩
theorem in_X12_isOver : Cond.instanceMethod yX12_isOver ∈ TW := (TWt 1579 (by decide +kernel) (by decide +kernel))
theorem se_X12_isOver : Cond.selects yX12_isOver.cls yX12_isOver yX12_isOver ∈ TW := (TWp 70 (by decide +kernel) (by decide +kernel))
set_option maxRecDepth 16384 in
theorem CKX12_isOver {rm : Room} (q : ({ frames := 0, cells := 0, slots := 0, locals := 0 } : Room).frames + 1 ≤ rm.frames ∧ 8 + (2 + 11) + ({ frames := 0, cells := 0, slots := 0, locals := 0 } : Room).locals ≤ rm.locals) : CK rm yX12_isOver cX12_isOver 2 (some .boolean) ({ frames := 0, cells := 0, slots := 0, locals := 0 } : Room) 0 := ⟨(TWt 1580 rfl (by decide +kernel)), (TWt 7 (by decide +kernel) (by decide +kernel)), ⟨by decide, by decide⟩, by decide +kernel, q.1, q.2⟩
theorem in_X12_tryLast : Cond.instanceMethod yX12_tryLast ∈ TW := (TWt 1583 (by decide +kernel) (by decide +kernel))
theorem se_X12_tryLast : Cond.selects yX12_tryLast.cls yX12_tryLast yX12_tryLast ∈ TW := (TWp 71 (by decide +kernel) (by decide +kernel))
set_option maxRecDepth 16384 in
theorem CKX12_tryLast {rm : Room} (q : ({ frames := 5, cells := 0, slots := 0, locals := 122 } : Room).frames + 1 ≤ rm.frames ∧ 8 + (6 + 11) + ({ frames := 5, cells := 0, slots := 0, locals := 122 } : Room).locals ≤ rm.locals) : CK rm yX12_tryLast cX12_tryLast 6 (some .boolean) ({ frames := 5, cells := 0, slots := 0, locals := 122 } : Room) 3 := ⟨(TWt 1584 rfl (by decide +kernel)), (TWt 7 (by decide +kernel) (by decide +kernel)), ⟨by decide, by decide⟩, by decide +kernel, q.1, q.2⟩
theorem in_X12_tryBoth : Cond.instanceMethod yX12_tryBoth ∈ TW := (TWt 1587 (by decide +kernel) (by decide +kernel))
theorem se_X12_tryBoth : Cond.selects yX12_tryBoth.cls yX12_tryBoth yX12_tryBoth ∈ TW := (TWp 72 (by decide +kernel) (by decide +kernel))
set_option maxRecDepth 16384 in
theorem CKX12_tryBoth {rm : Room} (q : ({ frames := 6, cells := 0, slots := 0, locals := 147 } : Room).frames + 1 ≤ rm.frames ∧ 8 + (5 + 11) + ({ frames := 6, cells := 0, slots := 0, locals := 147 } : Room).locals ≤ rm.locals) : CK rm yX12_tryBoth cX12_tryBoth 5 (some .boolean) ({ frames := 6, cells := 0, slots := 0, locals := 147 } : Room) 1 := ⟨(TWt 1588 rfl (by decide +kernel)), (TWt 7 (by decide +kernel) (by decide +kernel)), ⟨by decide, by decide⟩, by decide +kernel, q.1, q.2⟩
theorem in_X12_find : Cond.instanceMethod yX12_find ∈ TW := (TWt 1570 (by decide +kernel) (by decide +kernel))
theorem se_X12_find : Cond.selects yX12_find.cls yX12_find yX12_find ∈ TW := (TWt 1571 (by decide +kernel) (by decide +kernel))
set_option maxRecDepth 16384 in
theorem CKX12_find {rm : Room} (q : ({ frames := 7, cells := 0, slots := 0, locals := 171 } : Room).frames + 1 ≤ rm.frames ∧ 8 + (6 + 11) + ({ frames := 7, cells := 0, slots := 0, locals := 171 } : Room).locals ≤ rm.locals) : CK rm yX12_find cX12_find 6 (some .int) ({ frames := 7, cells := 0, slots := 0, locals := 171 } : Room) 2 := ⟨(TWt 1572 rfl (by decide +kernel)), (TWt 7 (by decide +kernel) (by decide +kernel)), ⟨by decide, by decide⟩, by decide +kernel, q.1, q.2⟩
theorem in_X12_found : Cond.instanceMethod yX12_found ∈ TW := (TWt 1590 (by decide +kernel) (by decide +kernel))
theorem se_X12_found : Cond.selects yX12_found.cls yX12_found yX12_found ∈ TW := (TWt 1591 (by decide +kernel) (by decide +kernel))
set_option maxRecDepth 16384 in
theorem CKX12_found {rm : Room} (q : ({ frames := 1, cells := 0, slots := 0, locals := 25 } : Room).frames + 1 ≤ rm.frames ∧ 8 + (3 + 11) + ({ frames := 1, cells := 0, slots := 0, locals := 25 } : Room).locals ≤ rm.locals) : CK rm yX12_found cX12_found 3 (some .int) ({ frames := 1, cells := 0, slots := 0, locals := 25 } : Room) 1 := ⟨(TWt 1592 rfl (by decide +kernel)), (TWt 7 (by decide +kernel) (by decide +kernel)), ⟨by decide, by decide⟩, by decide +kernel, q.1, q.2⟩
theorem st_X12_isShelf : Cond.static yX12_isShelf ∈ TW := (TWt 1599 (by decide +kernel) (by decide +kernel))
set_option maxRecDepth 16384 in
theorem CKX12_isShelf {rm : Room} (q : ({ frames := 0, cells := 0, slots := 0, locals := 0 } : Room).frames + 1 ≤ rm.frames ∧ 8 + (1 + 11) + ({ frames := 0, cells := 0, slots := 0, locals := 0 } : Room).locals ≤ rm.locals) : CK rm yX12_isShelf cX12_isShelf 1 (some .boolean) ({ frames := 0, cells := 0, slots := 0, locals := 0 } : Room) 1 := ⟨(TWt 1600 rfl (by decide +kernel)), (TWt 7 (by decide +kernel) (by decide +kernel)), ⟨by decide, by decide⟩, by decide +kernel, q.1, q.2⟩
theorem in_X12_keep_ : Cond.instanceMethod yX12_keep_ ∈ TW := (TWt 1595 (by decide +kernel) (by decide +kernel))
theorem se_X12_keep_ : Cond.selects yX12_keep_.cls yX12_keep_ yX12_keep_ ∈ TW := (TWt 1596 (by decide +kernel) (by decide +kernel))
set_option maxRecDepth 16384 in
theorem CKX12_keep_ {rm : Room} (q : ({ frames := 1, cells := 0, slots := 0, locals := 25 } : Room).frames + 1 ≤ rm.frames ∧ 8 + (6 + 11) + ({ frames := 1, cells := 0, slots := 0, locals := 25 } : Room).locals ≤ rm.locals) : CK rm yX12_keep_ cX12_keep_ 6 (some .int) ({ frames := 1, cells := 0, slots := 0, locals := 25 } : Room) 3 := ⟨(TWt 1597 rfl (by decide +kernel)), (TWt 7 (by decide +kernel) (by decide +kernel)), ⟨by decide, by decide⟩, by decide +kernel, q.1, q.2⟩
theorem in_X12_make : Cond.instanceMethod yX12_make ∈ TW := (TWt 1602 (by decide +kernel) (by decide +kernel))
theorem se_X12_make : Cond.selects yX12_make.cls yX12_make yX12_make ∈ TW := (TWt 1603 (by decide +kernel) (by decide +kernel))
set_option maxRecDepth 16384 in
theorem CKX12_make {rm : Room} (q : ({ frames := 1, cells := 0, slots := 0, locals := 25 } : Room).frames + 1 ≤ rm.frames ∧ 8 + (5 + 11) + ({ frames := 1, cells := 0, slots := 0, locals := 25 } : Room).locals ≤ rm.locals) : CK rm yX12_make cX12_make 5 (some .int) ({ frames := 1, cells := 0, slots := 0, locals := 25 } : Room) 3 := ⟨(TWt 1604 rfl (by decide +kernel)), (TWt 7 (by decide +kernel) (by decide +kernel)), ⟨by decide, by decide⟩, by decide +kernel, q.1, q.2⟩
theorem in_X12_element : Cond.instanceMethod yX12_element ∈ TW := (TWt 1606 (by decide +kernel) (by decide +kernel))
theorem se_X12_element : Cond.selects yX12_element.cls yX12_element yX12_element ∈ TW := (TWt 1607 (by decide +kernel) (by decide +kernel))
set_option maxRecDepth 16384 in
theorem CKX12_element {rm : Room} (q : ({ frames := 1, cells := 0, slots := 0, locals := 25 } : Room).frames + 1 ≤ rm.frames ∧ 8 + (4 + 11) + ({ frames := 1, cells := 0, slots := 0, locals := 25 } : Room).locals ≤ rm.locals) : CK rm yX12_element cX12_element 4 (some .int) ({ frames := 1, cells := 0, slots := 0, locals := 25 } : Room) 2 := ⟨(TWt 1608 rfl (by decide +kernel)), (TWt 7 (by decide +kernel) (by decide +kernel)), ⟨by decide, by decide⟩, by decide +kernel, q.1, q.2⟩
theorem in_X12_hasPlaces : Cond.instanceMethod yX12_hasPlaces ∈ TW := (TWt 1615 (by decide +kernel) (by decide +kernel))
theorem se_X12_hasPlaces : Cond.selects yX12_hasPlaces.cls yX12_hasPlaces yX12_hasPlaces ∈ TW := (TWp 73 (by decide +kernel) (by decide +kernel))
set_option maxRecDepth 16384 in
theorem CKX12_hasPlaces {rm : Room} (q : ({ frames := 0, cells := 0, slots := 0, locals := 0 } : Room).frames + 1 ≤ rm.frames ∧ 8 + (4 + 11) + ({ frames := 0, cells := 0, slots := 0, locals := 0 } : Room).locals ≤ rm.locals) : CK rm yX12_hasPlaces cX12_hasPlaces 4 (some .boolean) ({ frames := 0, cells := 0, slots := 0, locals := 0 } : Room) 3 := ⟨(TWt 1616 rfl (by decide +kernel)), (TWt 7 (by decide +kernel) (by decide +kernel)), ⟨by decide, by decide⟩, by decide +kernel, q.1, q.2⟩
theorem in_X12_copy : Cond.instanceMethod yX12_copy ∈ TW := (TWt 1610 (by decide +kernel) (by decide +kernel))
theorem se_X12_copy : Cond.selects yX12_copy.cls yX12_copy yX12_copy ∈ TW := (TWt 1611 (by decide +kernel) (by decide +kernel))
set_option maxRecDepth 16384 in
theorem CKX12_copy {rm : Room} (q : ({ frames := 1, cells := 0, slots := 0, locals := 23 } : Room).frames + 1 ≤ rm.frames ∧ 8 + (7 + 11) + ({ frames := 1, cells := 0, slots := 0, locals := 23 } : Room).locals ≤ rm.locals) : CK rm yX12_copy cX12_copy 7 (some .int) ({ frames := 1, cells := 0, slots := 0, locals := 23 } : Room) 5 := ⟨(TWt 1612 rfl (by decide +kernel)), (TWt 7 (by decide +kernel) (by decide +kernel)), ⟨by decide, by decide⟩, by decide +kernel, q.1, q.2⟩
theorem in_X12_denied : Cond.instanceMethod yX12_denied ∈ TW := (TWt 1623 (by decide +kernel) (by decide +kernel))
theorem se_X12_denied : Cond.selects yX12_denied.cls yX12_denied yX12_denied ∈ TW := (TWp 74 (by decide +kernel) (by decide +kernel))
set_option maxRecDepth 16384 in
theorem CKX12_denied {rm : Room} (q : ({ frames := 1, cells := 0, slots := 0, locals := 20 } : Room).frames + 1 ≤ rm.frames ∧ 8 + (2 + 11) + ({ frames := 1, cells := 0, slots := 0, locals := 20 } : Room).locals ≤ rm.locals) : CK rm yX12_denied cX12_denied 2 (some .int) ({ frames := 1, cells := 0, slots := 0, locals := 20 } : Room) 1 := ⟨(TWt 1624 rfl (by decide +kernel)), (TWt 7 (by decide +kernel) (by decide +kernel)), ⟨by decide, by decide⟩, by decide +kernel, q.1, q.2⟩
theorem in_X12_weight : Cond.instanceMethod yX12_weight ∈ TW := (TWt 1618 (by decide +kernel) (by decide +kernel))
theorem se_X12_weight : Cond.selects yX12_weight.cls yX12_weight yX12_weight ∈ TW := (TWt 1619 (by decide +kernel) (by decide +kernel))
set_option maxRecDepth 16384 in
theorem CKX12_weight {rm : Room} (q : ({ frames := 2, cells := 0, slots := 0, locals := 41 } : Room).frames + 1 ≤ rm.frames ∧ 8 + (4 + 11) + ({ frames := 2, cells := 0, slots := 0, locals := 41 } : Room).locals ≤ rm.locals) : CK rm yX12_weight cX12_weight 4 (some .int) ({ frames := 2, cells := 0, slots := 0, locals := 41 } : Room) 1 := ⟨(TWt 1620 rfl (by decide +kernel)), (TWt 7 (by decide +kernel) (by decide +kernel)), ⟨by decide, by decide⟩, by decide +kernel, q.1, q.2⟩
theorem in_X12_toss : Cond.instanceMethod yX12_toss ∈ TW := (TWt 1626 (by decide +kernel) (by decide +kernel))
theorem se_X12_toss : Cond.selects yX12_toss.cls yX12_toss yX12_toss ∈ TW := (TWt 1627 (by decide +kernel) (by decide +kernel))
set_option maxRecDepth 16384 in
theorem CKX12_toss {rm : Room} (q : ({ frames := 2, cells := 0, slots := 0, locals := 41 } : Room).frames + 1 ≤ rm.frames ∧ 8 + (3 + 11) + ({ frames := 2, cells := 0, slots := 0, locals := 41 } : Room).locals ≤ rm.locals) : CK rm yX12_toss cX12_toss 3 (some .int) ({ frames := 2, cells := 0, slots := 0, locals := 41 } : Room) 1 := ⟨(TWt 1628 rfl (by decide +kernel)), (TWt 7 (by decide +kernel) (by decide +kernel)), ⟨by decide, by decide⟩, by decide +kernel, q.1, q.2⟩
end MG_06_mdl
section MG_06_zdk
/-! the bytes of an instruction -/
abbrev dkB (c : ByteArray) (pc : Nat) (l : List Nat) : Prop := ((c.data.toList.drop pc).take l.length).map UInt8.toNat = l
theorem dk_hd {c : ByteArray} {p b : Nat} {l : List Nat} (h : dkB c p (b :: l)) : (∃ q : p < c.size, c[p].toNat = b) ∧ dkB c (p + 1) l := by
  have h' : ((c.data.toList.drop p).take (l.length + 1)).map UInt8.toNat = b :: l := h
  cases e : c.data.toList.drop p with
  | nil => 
    rw [e] at h'
    simp at h'
  | cons x xs =>
    rw [e, List.take_succ_cons, List.map_cons] at h'
    have h1 := (List.cons.inj h').1
    have h2 := (List.cons.inj h').2
    have lt : p < c.data.toList.length := by
      apply Classical.byContradiction
      intro n
      rw [List.drop_eq_nil_of_le (by omega)] at e
      exact absurd e (by simp)
    have e2 := List.drop_eq_getElem_cons lt
    rw [e] at e2
    have e3 := List.cons.inj e2
    refine ⟨⟨lt, ?_⟩, ?_⟩
    · rw [← h1, e3.1]
      rfl
    · show ((c.data.toList.drop (p + 1)).take l.length).map UInt8.toNat = l
      rw [← e3.2]
      exact h2
theorem dk_u1v {c : ByteArray} {p : Nat} (q : p < c.size) : (Reader.u1 : Decoder Nat) c p = .ok (c[p].toNat, p + 1) := by
  unfold Reader.u1
  change (dite (p < c.size) _ _ : Decoder Nat) c p = _
  rw [dif_pos q]
  rfl
theorem dk_b {α β : Type} {x : Decoder α} {f : α → Decoder β} {c : ByteArray} {p p' : Nat} {a : α} (h : x c p = .ok (a, p')) : (x >>= f) c p = f a c p' := by
  show Except.bind (x c p) (fun v => f v.1 c v.2) = _
  rw [h]
  rfl
theorem dk_u1 {c : ByteArray} {p b : Nat} {l : List Nat} (h : dkB c p (b :: l)) : (Reader.u1 : Decoder Nat) c p = .ok (b, p + 1) := by
  obtain ⟨⟨q, e⟩, -⟩ := dk_hd h
  rw [dk_u1v q, e]
theorem dk_u2 {c : ByteArray} {p a b : Nat} {l : List Nat} (h : dkB c p (a :: b :: l)) : (Reader.u2 : Decoder Nat) c p = .ok (a * 256 + b, p + 2) := by
  unfold Reader.u2
  rw [dk_b (dk_u1 h), dk_b (dk_u1 (dk_hd h).2)]
  rfl
theorem dk_go {c : ByteArray} {pc op n : Nat} {l : List Nat} {i : Instr} {F : Nat → Decoder Instr} (e : Decoder.instr pc = Reader.u1 >>= F) (h : dkB c pc (op :: l)) (k : F op c (pc + 1) = .ok (i, pc + n)) : decode c pc = .ok (i, n) := by
  have r : Decoder.instr pc c pc = .ok (i, pc + n) := by rw [e, dk_b (dk_u1 h)]; exact k
  show Except.bind (Decoder.instr pc c pc) (fun v => .ok (v.1, v.2 - pc)) = _
  rw [r]
  show Except.ok (i, pc + n - pc) = _
  rw [Nat.add_sub_cancel_left]
theorem dk_s1 {c : ByteArray} {p a : Nat} {l : List Nat} (h : dkB c p (a :: l)) : (Reader.s1 : Decoder Int) c p = .ok (Reader.signed 8 a, p + 1) := by
  show Except.bind ((Reader.u1 : Decoder Nat) c p) (fun v => .ok (Reader.signed 8 v.1, v.2)) = _
  rw [dk_u1 h]
  rfl
theorem dk_s2 {c : ByteArray} {p a b : Nat} {l : List Nat} (h : dkB c p (a :: b :: l)) : (Reader.s2 : Decoder Int) c p = .ok (Reader.signed 16 (a * 256 + b), p + 2) := by
  show Except.bind ((Reader.u2 : Decoder Nat) c p) (fun v => .ok (Reader.signed 16 v.1, v.2)) = _
  rw [dk_u2 h]
  rfl
theorem dk_1 {c : ByteArray} {pc : Nat} (h : dkB c pc [1]) : decode c pc = .ok (.aconst_null, 1) := dk_go rfl h rfl
theorem dk_9 {c : ByteArray} {pc : Nat} (h : dkB c pc [9]) : decode c pc = .ok (.lconst 0, 1) := dk_go rfl h rfl
theorem dk_10 {c : ByteArray} {pc : Nat} (h : dkB c pc [10]) : decode c pc = .ok (.lconst 1, 1) := dk_go rfl h rfl
theorem dk_46 {c : ByteArray} {pc : Nat} (h : dkB c pc [46]) : decode c pc = .ok (.iaload, 1) := dk_go rfl h rfl
theorem dk_50 {c : ByteArray} {pc : Nat} (h : dkB c pc [50]) : decode c pc = .ok (.aaload, 1) := dk_go rfl h rfl
theorem dk_51 {c : ByteArray} {pc : Nat} (h : dkB c pc [51]) : decode c pc = .ok (.baload, 1) := dk_go rfl h rfl
theorem dk_79 {c : ByteArray} {pc : Nat} (h : dkB c pc [79]) : decode c pc = .ok (.iastore, 1) := dk_go rfl h rfl
theorem dk_80 {c : ByteArray} {pc : Nat} (h : dkB c pc [80]) : decode c pc = .ok (.lastore, 1) := dk_go rfl h rfl
theorem dk_83 {c : ByteArray} {pc : Nat} (h : dkB c pc [83]) : decode c pc = .ok (.aastore, 1) := dk_go rfl h rfl
theorem dk_84 {c : ByteArray} {pc : Nat} (h : dkB c pc [84]) : decode c pc = .ok (.bastore, 1) := dk_go rfl h rfl
theorem dk_87 {c : ByteArray} {pc : Nat} (h : dkB c pc [87]) : decode c pc = .ok (.pop, 1) := dk_go rfl h rfl
theorem dk_89 {c : ByteArray} {pc : Nat} (h : dkB c pc [89]) : decode c pc = .ok (.dup, 1) := dk_go rfl h rfl
theorem dk_96 {c : ByteArray} {pc : Nat} (h : dkB c pc [96]) : decode c pc = .ok (.iadd, 1) := dk_go rfl h rfl
theorem dk_100 {c : ByteArray} {pc : Nat} (h : dkB c pc [100]) : decode c pc = .ok (.isub, 1) := dk_go rfl h rfl
theorem dk_104 {c : ByteArray} {pc : Nat} (h : dkB c pc [104]) : decode c pc = .ok (.imul, 1) := dk_go rfl h rfl
theorem dk_112 {c : ByteArray} {pc : Nat} (h : dkB c pc [112]) : decode c pc = .ok (.irem, 1) := dk_go rfl h rfl
theorem dk_126 {c : ByteArray} {pc : Nat} (h : dkB c pc [126]) : decode c pc = .ok (.iand, 1) := dk_go rfl h rfl
theorem dk_133 {c : ByteArray} {pc : Nat} (h : dkB c pc [133]) : decode c pc = .ok (.i2l, 1) := dk_go rfl h rfl
theorem dk_148 {c : ByteArray} {pc : Nat} (h : dkB c pc [148]) : decode c pc = .ok (.lcmp, 1) := dk_go rfl h rfl
theorem dk_172 {c : ByteArray} {pc : Nat} (h : dkB c pc [172]) : decode c pc = .ok (.ireturn, 1) := dk_go rfl h rfl
theorem dk_176 {c : ByteArray} {pc : Nat} (h : dkB c pc [176]) : decode c pc = .ok (.areturn, 1) := dk_go rfl h rfl
theorem dk_177 {c : ByteArray} {pc : Nat} (h : dkB c pc [177]) : decode c pc = .ok (.return_, 1) := dk_go rfl h rfl
theorem dk_190 {c : ByteArray} {pc : Nat} (h : dkB c pc [190]) : decode c pc = .ok (.arraylength, 1) := dk_go rfl h rfl
theorem dk_191 {c : ByteArray} {pc : Nat} (h : dkB c pc [191]) : decode c pc = .ok (.athrow, 1) := dk_go rfl h rfl
theorem dk_2 {c : ByteArray} {pc : Nat} (h : dkB c pc [2]) : decode c pc = .ok (.iconst (-1), 1) := dk_go rfl h rfl
theorem dk_3 {c : ByteArray} {pc : Nat} (h : dkB c pc [3]) : decode c pc = .ok (.iconst 0, 1) := dk_go rfl h rfl
theorem dk_4 {c : ByteArray} {pc : Nat} (h : dkB c pc [4]) : decode c pc = .ok (.iconst 1, 1) := dk_go rfl h rfl
theorem dk_5 {c : ByteArray} {pc : Nat} (h : dkB c pc [5]) : decode c pc = .ok (.iconst 2, 1) := dk_go rfl h rfl
theorem dk_6 {c : ByteArray} {pc : Nat} (h : dkB c pc [6]) : decode c pc = .ok (.iconst 3, 1) := dk_go rfl h rfl
theorem dk_7 {c : ByteArray} {pc : Nat} (h : dkB c pc [7]) : decode c pc = .ok (.iconst 4, 1) := dk_go rfl h rfl
theorem dk_8 {c : ByteArray} {pc : Nat} (h : dkB c pc [8]) : decode c pc = .ok (.iconst 5, 1) := dk_go rfl h rfl
theorem dk_26 {c : ByteArray} {pc : Nat} (h : dkB c pc [26]) : decode c pc = .ok (.iload_n 0, 1) := dk_go rfl h rfl
theorem dk_30 {c : ByteArray} {pc : Nat} (h : dkB c pc [30]) : decode c pc = .ok (.lload_n 0, 1) := dk_go rfl h rfl
theorem dk_42 {c : ByteArray} {pc : Nat} (h : dkB c pc [42]) : decode c pc = .ok (.aload_n 0, 1) := dk_go rfl h rfl
theorem dk_59 {c : ByteArray} {pc : Nat} (h : dkB c pc [59]) : decode c pc = .ok (.istore_n 0, 1) := dk_go rfl h rfl
theorem dk_75 {c : ByteArray} {pc : Nat} (h : dkB c pc [75]) : decode c pc = .ok (.astore_n 0, 1) := dk_go rfl h rfl
theorem dk_27 {c : ByteArray} {pc : Nat} (h : dkB c pc [27]) : decode c pc = .ok (.iload_n 1, 1) := dk_go rfl h rfl
theorem dk_31 {c : ByteArray} {pc : Nat} (h : dkB c pc [31]) : decode c pc = .ok (.lload_n 1, 1) := dk_go rfl h rfl
theorem dk_43 {c : ByteArray} {pc : Nat} (h : dkB c pc [43]) : decode c pc = .ok (.aload_n 1, 1) := dk_go rfl h rfl
theorem dk_60 {c : ByteArray} {pc : Nat} (h : dkB c pc [60]) : decode c pc = .ok (.istore_n 1, 1) := dk_go rfl h rfl
theorem dk_76 {c : ByteArray} {pc : Nat} (h : dkB c pc [76]) : decode c pc = .ok (.astore_n 1, 1) := dk_go rfl h rfl
theorem dk_28 {c : ByteArray} {pc : Nat} (h : dkB c pc [28]) : decode c pc = .ok (.iload_n 2, 1) := dk_go rfl h rfl
theorem dk_32 {c : ByteArray} {pc : Nat} (h : dkB c pc [32]) : decode c pc = .ok (.lload_n 2, 1) := dk_go rfl h rfl
theorem dk_44 {c : ByteArray} {pc : Nat} (h : dkB c pc [44]) : decode c pc = .ok (.aload_n 2, 1) := dk_go rfl h rfl
theorem dk_61 {c : ByteArray} {pc : Nat} (h : dkB c pc [61]) : decode c pc = .ok (.istore_n 2, 1) := dk_go rfl h rfl
theorem dk_77 {c : ByteArray} {pc : Nat} (h : dkB c pc [77]) : decode c pc = .ok (.astore_n 2, 1) := dk_go rfl h rfl
theorem dk_29 {c : ByteArray} {pc : Nat} (h : dkB c pc [29]) : decode c pc = .ok (.iload_n 3, 1) := dk_go rfl h rfl
theorem dk_33 {c : ByteArray} {pc : Nat} (h : dkB c pc [33]) : decode c pc = .ok (.lload_n 3, 1) := dk_go rfl h rfl
theorem dk_45 {c : ByteArray} {pc : Nat} (h : dkB c pc [45]) : decode c pc = .ok (.aload_n 3, 1) := dk_go rfl h rfl
theorem dk_62 {c : ByteArray} {pc : Nat} (h : dkB c pc [62]) : decode c pc = .ok (.istore_n 3, 1) := dk_go rfl h rfl
theorem dk_78 {c : ByteArray} {pc : Nat} (h : dkB c pc [78]) : decode c pc = .ok (.astore_n 3, 1) := dk_go rfl h rfl
theorem dk_21 {c : ByteArray} {pc a : Nat} (h : dkB c pc [21, a]) : decode c pc = .ok (.iload a, 2) := dk_go rfl h (dk_b (dk_u1 (dk_hd h).2))
theorem dk_25 {c : ByteArray} {pc a : Nat} (h : dkB c pc [25, a]) : decode c pc = .ok (.aload a, 2) := dk_go rfl h (dk_b (dk_u1 (dk_hd h).2))
theorem dk_54 {c : ByteArray} {pc a : Nat} (h : dkB c pc [54, a]) : decode c pc = .ok (.istore a, 2) := dk_go rfl h (dk_b (dk_u1 (dk_hd h).2))
theorem dk_58 {c : ByteArray} {pc a : Nat} (h : dkB c pc [58, a]) : decode c pc = .ok (.astore a, 2) := dk_go rfl h (dk_b (dk_u1 (dk_hd h).2))
theorem dk_18 {c : ByteArray} {pc a : Nat} (h : dkB c pc [18, a]) : decode c pc = .ok (.ldc a, 2) := dk_go rfl h (dk_b (dk_u1 (dk_hd h).2))
theorem dk_20 {c : ByteArray} {pc a b v : Nat} (h : dkB c pc [20, a, b]) (e : a * 256 + b = v) : decode c pc = .ok (.ldc2_w v, 3) := e ▸ dk_go rfl h (dk_b (dk_u2 (dk_hd h).2))
theorem dk_180 {c : ByteArray} {pc a b v : Nat} (h : dkB c pc [180, a, b]) (e : a * 256 + b = v) : decode c pc = .ok (.getfield v, 3) := e ▸ dk_go rfl h (dk_b (dk_u2 (dk_hd h).2))
theorem dk_181 {c : ByteArray} {pc a b v : Nat} (h : dkB c pc [181, a, b]) (e : a * 256 + b = v) : decode c pc = .ok (.putfield v, 3) := e ▸ dk_go rfl h (dk_b (dk_u2 (dk_hd h).2))
theorem dk_182 {c : ByteArray} {pc a b v : Nat} (h : dkB c pc [182, a, b]) (e : a * 256 + b = v) : decode c pc = .ok (.invokevirtual v, 3) := e ▸ dk_go rfl h (dk_b (dk_u2 (dk_hd h).2))
theorem dk_183 {c : ByteArray} {pc a b v : Nat} (h : dkB c pc [183, a, b]) (e : a * 256 + b = v) : decode c pc = .ok (.invokespecial v, 3) := e ▸ dk_go rfl h (dk_b (dk_u2 (dk_hd h).2))
theorem dk_184 {c : ByteArray} {pc a b v : Nat} (h : dkB c pc [184, a, b]) (e : a * 256 + b = v) : decode c pc = .ok (.invokestatic v, 3) := e ▸ dk_go rfl h (dk_b (dk_u2 (dk_hd h).2))
theorem dk_187 {c : ByteArray} {pc a b v : Nat} (h : dkB c pc [187, a, b]) (e : a * 256 + b = v) : decode c pc = .ok (.new v, 3) := e ▸ dk_go rfl h (dk_b (dk_u2 (dk_hd h).2))
theorem dk_17 {c : ByteArray} {pc a b : Nat} {v : Int} (h : dkB c pc [17, a, b]) (e : Reader.signed 16 (a * 256 + b) = v) : decode c pc = .ok (.sipush v, 3) := e ▸ dk_go rfl h (dk_b (dk_s2 (dk_hd h).2))
theorem dk_167 {c : ByteArray} {pc a b : Nat} {v : Int} (h : dkB c pc [167, a, b]) (e : Reader.signed 16 (a * 256 + b) = v) : decode c pc = .ok (.goto v, 3) := e ▸ dk_go rfl h (dk_b (dk_s2 (dk_hd h).2))
theorem dk_198 {c : ByteArray} {pc a b : Nat} {v : Int} (h : dkB c pc [198, a, b]) (e : Reader.signed 16 (a * 256 + b) = v) : decode c pc = .ok (.ifnull v, 3) := e ▸ dk_go rfl h (dk_b (dk_s2 (dk_hd h).2))
theorem dk_199 {c : ByteArray} {pc a b : Nat} {v : Int} (h : dkB c pc [199, a, b]) (e : Reader.signed 16 (a * 256 + b) = v) : decode c pc = .ok (.ifnonnull v, 3) := e ▸ dk_go rfl h (dk_b (dk_s2 (dk_hd h).2))
theorem dk_153 {c : ByteArray} {pc a b : Nat} {v : Int} (h : dkB c pc [153, a, b]) (e : Reader.signed 16 (a * 256 + b) = v) : decode c pc = .ok (.ifCond .eq v, 3) := e ▸ dk_go rfl h (dk_b (dk_s2 (dk_hd h).2))
theorem dk_159 {c : ByteArray} {pc a b : Nat} {v : Int} (h : dkB c pc [159, a, b]) (e : Reader.signed 16 (a * 256 + b) = v) : decode c pc = .ok (.if_icmp .eq v, 3) := e ▸ dk_go rfl h (dk_b (dk_s2 (dk_hd h).2))
theorem dk_154 {c : ByteArray} {pc a b : Nat} {v : Int} (h : dkB c pc [154, a, b]) (e : Reader.signed 16 (a * 256 + b) = v) : decode c pc = .ok (.ifCond .ne v, 3) := e ▸ dk_go rfl h (dk_b (dk_s2 (dk_hd h).2))
theorem dk_160 {c : ByteArray} {pc a b : Nat} {v : Int} (h : dkB c pc [160, a, b]) (e : Reader.signed 16 (a * 256 + b) = v) : decode c pc = .ok (.if_icmp .ne v, 3) := e ▸ dk_go rfl h (dk_b (dk_s2 (dk_hd h).2))
theorem dk_155 {c : ByteArray} {pc a b : Nat} {v : Int} (h : dkB c pc [155, a, b]) (e : Reader.signed 16 (a * 256 + b) = v) : decode c pc = .ok (.ifCond .lt v, 3) := e ▸ dk_go rfl h (dk_b (dk_s2 (dk_hd h).2))
theorem dk_161 {c : ByteArray} {pc a b : Nat} {v : Int} (h : dkB c pc [161, a, b]) (e : Reader.signed 16 (a * 256 + b) = v) : decode c pc = .ok (.if_icmp .lt v, 3) := e ▸ dk_go rfl h (dk_b (dk_s2 (dk_hd h).2))
theorem dk_156 {c : ByteArray} {pc a b : Nat} {v : Int} (h : dkB c pc [156, a, b]) (e : Reader.signed 16 (a * 256 + b) = v) : decode c pc = .ok (.ifCond .ge v, 3) := e ▸ dk_go rfl h (dk_b (dk_s2 (dk_hd h).2))
theorem dk_162 {c : ByteArray} {pc a b : Nat} {v : Int} (h : dkB c pc [162, a, b]) (e : Reader.signed 16 (a * 256 + b) = v) : decode c pc = .ok (.if_icmp .ge v, 3) := e ▸ dk_go rfl h (dk_b (dk_s2 (dk_hd h).2))
theorem dk_157 {c : ByteArray} {pc a b : Nat} {v : Int} (h : dkB c pc [157, a, b]) (e : Reader.signed 16 (a * 256 + b) = v) : decode c pc = .ok (.ifCond .gt v, 3) := e ▸ dk_go rfl h (dk_b (dk_s2 (dk_hd h).2))
theorem dk_163 {c : ByteArray} {pc a b : Nat} {v : Int} (h : dkB c pc [163, a, b]) (e : Reader.signed 16 (a * 256 + b) = v) : decode c pc = .ok (.if_icmp .gt v, 3) := e ▸ dk_go rfl h (dk_b (dk_s2 (dk_hd h).2))
theorem dk_158 {c : ByteArray} {pc a b : Nat} {v : Int} (h : dkB c pc [158, a, b]) (e : Reader.signed 16 (a * 256 + b) = v) : decode c pc = .ok (.ifCond .le v, 3) := e ▸ dk_go rfl h (dk_b (dk_s2 (dk_hd h).2))
theorem dk_164 {c : ByteArray} {pc a b : Nat} {v : Int} (h : dkB c pc [164, a, b]) (e : Reader.signed 16 (a * 256 + b) = v) : decode c pc = .ok (.if_icmp .le v, 3) := e ▸ dk_go rfl h (dk_b (dk_s2 (dk_hd h).2))
theorem dk_16 {c : ByteArray} {pc a : Nat} {v : Int} (h : dkB c pc [16, a]) (e : Reader.signed 8 a = v) : decode c pc = .ok (.bipush v, 2) := e ▸ dk_go rfl h (dk_b (dk_s1 (dk_hd h).2))
theorem dk_132 {c : ByteArray} {pc a b : Nat} {v : Int} (h : dkB c pc [132, a, b]) (e : Reader.signed 8 b = v) : decode c pc = .ok (.iinc a v, 3) := e ▸ dk_go rfl h ((dk_b (dk_u1 (dk_hd h).2)).trans (dk_b (dk_s1 (dk_hd (dk_hd h).2).2)))
/-! a method's bytes as one number: a byte is looked up by a shift -/
def dkc (N n : Nat) : List UInt8 → Nat → Bool
  | [], p => Nat.beq p n
  | b :: l, p => Nat.beq ((N >>> (8 * p)) % 256) b.toNat && dkc N n l (p + 1)
def dkq (N n : Nat) : Nat → List Nat → Bool
  | _, [] => true
  | p, b :: l => Nat.ble (p + 1) n && (Nat.beq ((N >>> (8 * p)) % 256) b && dkq N n (p + 1) l)
theorem dkc_ok {N n : Nat} : ∀ (l : List UInt8) (p : Nat), dkc N n l p = true → l.length + p = n ∧ ∀ (i : Nat) (x : UInt8), l[i]? = some x → x.toNat = (N >>> (8 * (p + i))) % 256 := by
  intro l
  induction l with
  | nil =>
    intro p h
    refine ⟨?_, fun i x h => by simp at h⟩
    have := Nat.eq_of_beq_eq_true h
    simp [this]
  | cons b l ih =>
    intro p h
    have h2 := Bool.and_eq_true_iff.mp h
    obtain ⟨a1, a2⟩ := ih (p + 1) h2.2
    refine ⟨by rw [List.length_cons]; omega, fun i x hx => ?_⟩
    cases i with
    | zero =>
      have e : b = x := Option.some.inj hx
      subst e
      exact (Nat.eq_of_beq_eq_true h2.1).symm
    | succ i =>
      have r := a2 i x hx
      rw [show p + (i + 1) = p + 1 + i by omega]
      exact r
theorem dkn {c : ByteArray} {N n : Nat} (h : dkc N n c.data.toList 0 = true) : ∀ {l : List Nat} {pc : Nat}, dkq N n pc l = true → dkB c pc l := by
  obtain ⟨hl, hx⟩ := dkc_ok _ _ h
  intro l
  induction l with
  | nil =>
    intro pc _
    show ((c.data.toList.drop pc).take 0).map UInt8.toNat = []
    rw [List.take_zero]
    rfl
  | cons b l ih =>
    intro pc g
    have g2 := Bool.and_eq_true_iff.mp g
    have g3 := Bool.and_eq_true_iff.mp g2.2
    have lt : pc < c.data.toList.length := by
      have := Nat.le_of_ble_eq_true g2.1
      omega
    have r := ih g3.2
    show ((c.data.toList.drop pc).take (l.length + 1)).map UInt8.toNat = b :: l
    rw [List.drop_eq_getElem_cons lt, List.take_succ_cons, List.map_cons]
    have e1 := hx pc _ (List.getElem?_eq_getElem lt)
    rw [e1, Nat.zero_add, Nat.eq_of_beq_eq_true g3.1]
    exact congrArg _ r
end MG_06_zdk
section MG_07_mdec0
theorem dX12_isIn_0 : decode cX12_isIn 0 = .ok (.lload_n 0, 1) := dk_30 (by decide +kernel)
theorem dX12_isIn_1 : decode cX12_isIn 1 = .ok (.lload_n 2, 1) := dk_32 (by decide +kernel)
theorem dX12_isIn_2 : decode cX12_isIn 2 = .ok (.lcmp, 1) := dk_148 (by decide +kernel)
theorem dX12_isIn_3 : decode cX12_isIn 3 = .ok (.ifCond .lt 14, 3) := dk_155 (a := 0) (b := 14) (by decide +kernel) rfl
theorem dX12_isIn_6 : decode cX12_isIn 6 = .ok (.lload_n 0, 1) := dk_30 (by decide +kernel)
theorem dX12_isIn_7 : decode cX12_isIn 7 = .ok (.lload 4, 2) := by decide +kernel
theorem dX12_isIn_9 : decode cX12_isIn 9 = .ok (.lcmp, 1) := dk_148 (by decide +kernel)
theorem dX12_isIn_10 : decode cX12_isIn 10 = .ok (.ifCond .gt 7, 3) := dk_157 (a := 0) (b := 7) (by decide +kernel) rfl
theorem dX12_isIn_13 : decode cX12_isIn 13 = .ok (.iconst 1, 1) := dk_4 (by decide +kernel)
theorem dX12_isIn_14 : decode cX12_isIn 14 = .ok (.goto 4, 3) := dk_167 (a := 0) (b := 4) (by decide +kernel) rfl
theorem dX12_isIn_17 : decode cX12_isIn 17 = .ok (.iconst 0, 1) := dk_3 (by decide +kernel)
theorem dX12_isIn_18 : decode cX12_isIn 18 = .ok (.ireturn, 1) := dk_172 (by decide +kernel)
theorem dX12_modulo_0 : decode cX12_modulo 0 = .ok (.iload_n 0, 1) := dk_26 (by decide +kernel)
theorem dX12_modulo_1 : decode cX12_modulo 1 = .ok (.iload_n 1, 1) := dk_27 (by decide +kernel)
theorem dX12_modulo_2 : decode cX12_modulo 2 = .ok (.irem, 1) := dk_112 (by decide +kernel)
theorem dX12_modulo_3 : decode cX12_modulo 3 = .ok (.iload_n 1, 1) := dk_27 (by decide +kernel)
theorem dX12_modulo_4 : decode cX12_modulo 4 = .ok (.iadd, 1) := dk_96 (by decide +kernel)
theorem dX12_modulo_5 : decode cX12_modulo 5 = .ok (.iload_n 1, 1) := dk_27 (by decide +kernel)
theorem dX12_modulo_6 : decode cX12_modulo 6 = .ok (.irem, 1) := dk_112 (by decide +kernel)
theorem dX12_modulo_7 : decode cX12_modulo 7 = .ok (.ireturn, 1) := dk_172 (by decide +kernel)
def dncX12_code : Nat := 0xac64042e1b0700b42a4f60042e5c1b0700b42a4f051506151600b42a4f041506151300b42a4f1d06151000b42a4f1c06150d00b42a0636602e1b0700b42a681b1810acfe100600a018102e1b0700b42aac0205009aa900b8ad001409851c0f0099a900b8a7001409851ba400b5032a
theorem dmcX12_code : dkc dncX12_code 111 cX12_code.data.toList 0 = true := by decide +kernel
theorem dX12_code_0 : decode cX12_code 0 = .ok (.aload_n 0, 1) := dk_42 (dkn dmcX12_code (by decide +kernel))
theorem dX12_code_1 : decode cX12_code 1 = .ok (.iconst 0, 1) := dk_3 (dkn dmcX12_code (by decide +kernel))
theorem dX12_code_2 : decode cX12_code 2 = .ok (.putfield 164, 3) := dk_181 (a := 0) (b := 164) (dkn dmcX12_code (by decide +kernel)) rfl
theorem dX12_code_5 : decode cX12_code 5 = .ok (.iload_n 1, 1) := dk_27 (dkn dmcX12_code (by decide +kernel))
theorem dX12_code_6 : decode cX12_code 6 = .ok (.i2l, 1) := dk_133 (dkn dmcX12_code (by decide +kernel))
theorem dX12_code_7 : decode cX12_code 7 = .ok (.lconst 0, 1) := dk_9 (dkn dmcX12_code (by decide +kernel))
theorem dX12_code_8 : decode cX12_code 8 = .ok (.ldc2_w 167, 3) := dk_20 (a := 0) (b := 167) (dkn dmcX12_code (by decide +kernel)) rfl
theorem dX12_code_11 : decode cX12_code 11 = .ok (.invokestatic 169, 3) := dk_184 (a := 0) (b := 169) (dkn dmcX12_code (by decide +kernel)) rfl
theorem dX12_code_14 : decode cX12_code 14 = .ok (.ifCond .eq 15, 3) := dk_153 (a := 0) (b := 15) (dkn dmcX12_code (by decide +kernel)) rfl
theorem dX12_code_17 : decode cX12_code 17 = .ok (.iload_n 2, 1) := dk_28 (dkn dmcX12_code (by decide +kernel))
theorem dX12_code_18 : decode cX12_code 18 = .ok (.i2l, 1) := dk_133 (dkn dmcX12_code (by decide +kernel))
theorem dX12_code_19 : decode cX12_code 19 = .ok (.lconst 0, 1) := dk_9 (dkn dmcX12_code (by decide +kernel))
theorem dX12_code_20 : decode cX12_code 20 = .ok (.ldc2_w 173, 3) := dk_20 (a := 0) (b := 173) (dkn dmcX12_code (by decide +kernel)) rfl
theorem dX12_code_23 : decode cX12_code 23 = .ok (.invokestatic 169, 3) := dk_184 (a := 0) (b := 169) (dkn dmcX12_code (by decide +kernel)) rfl
theorem dX12_code_26 : decode cX12_code 26 = .ok (.ifCond .ne 5, 3) := dk_154 (a := 0) (b := 5) (dkn dmcX12_code (by decide +kernel)) rfl
theorem dX12_code_29 : decode cX12_code 29 = .ok (.iconst (-1), 1) := dk_2 (dkn dmcX12_code (by decide +kernel))
theorem dX12_code_30 : decode cX12_code 30 = .ok (.ireturn, 1) := dk_172 (dkn dmcX12_code (by decide +kernel))
theorem dX12_code_31 : decode cX12_code 31 = .ok (.aload_n 0, 1) := dk_42 (dkn dmcX12_code (by decide +kernel))
theorem dX12_code_32 : decode cX12_code 32 = .ok (.getfield 7, 3) := dk_180 (a := 0) (b := 7) (dkn dmcX12_code (by decide +kernel)) rfl
theorem dX12_code_35 : decode cX12_code 35 = .ok (.iload_n 1, 1) := dk_27 (dkn dmcX12_code (by decide +kernel))
theorem dX12_code_36 : decode cX12_code 36 = .ok (.iaload, 1) := dk_46 (dkn dmcX12_code (by decide +kernel))
theorem dX12_code_37 : decode cX12_code 37 = .ok (.bipush 24, 2) := dk_16 (a := 24) (dkn dmcX12_code (by decide +kernel)) rfl
theorem dX12_code_39 : decode cX12_code 39 = .ok (.if_icmp .ne 6, 3) := dk_160 (a := 0) (b := 6) (dkn dmcX12_code (by decide +kernel)) rfl
theorem dX12_code_42 : decode cX12_code 42 = .ok (.bipush (-2), 2) := dk_16 (a := 254) (dkn dmcX12_code (by decide +kernel)) rfl
theorem dX12_code_44 : decode cX12_code 44 = .ok (.ireturn, 1) := dk_172 (dkn dmcX12_code (by decide +kernel))
theorem dX12_code_45 : decode cX12_code 45 = .ok (.bipush 24, 2) := dk_16 (a := 24) (dkn dmcX12_code (by decide +kernel)) rfl
theorem dX12_code_47 : decode cX12_code 47 = .ok (.iload_n 1, 1) := dk_27 (dkn dmcX12_code (by decide +kernel))
theorem dX12_code_48 : decode cX12_code 48 = .ok (.imul, 1) := dk_104 (dkn dmcX12_code (by decide +kernel))
theorem dX12_code_49 : decode cX12_code 49 = .ok (.aload_n 0, 1) := dk_42 (dkn dmcX12_code (by decide +kernel))
theorem dX12_code_50 : decode cX12_code 50 = .ok (.getfield 7, 3) := dk_180 (a := 0) (b := 7) (dkn dmcX12_code (by decide +kernel)) rfl
theorem dX12_code_53 : decode cX12_code 53 = .ok (.iload_n 1, 1) := dk_27 (dkn dmcX12_code (by decide +kernel))
theorem dX12_code_54 : decode cX12_code 54 = .ok (.iaload, 1) := dk_46 (dkn dmcX12_code (by decide +kernel))
theorem dX12_code_55 : decode cX12_code 55 = .ok (.iadd, 1) := dk_96 (dkn dmcX12_code (by decide +kernel))
theorem dX12_code_56 : decode cX12_code 56 = .ok (.istore 6, 2) := dk_54 (dkn dmcX12_code (by decide +kernel))
theorem dX12_code_58 : decode cX12_code 58 = .ok (.aload_n 0, 1) := dk_42 (dkn dmcX12_code (by decide +kernel))
theorem dX12_code_59 : decode cX12_code 59 = .ok (.getfield 13, 3) := dk_180 (a := 0) (b := 13) (dkn dmcX12_code (by decide +kernel)) rfl
theorem dX12_code_62 : decode cX12_code 62 = .ok (.iload 6, 2) := dk_21 (dkn dmcX12_code (by decide +kernel))
theorem dX12_code_64 : decode cX12_code 64 = .ok (.iload_n 2, 1) := dk_28 (dkn dmcX12_code (by decide +kernel))
theorem dX12_code_65 : decode cX12_code 65 = .ok (.iastore, 1) := dk_79 (dkn dmcX12_code (by decide +kernel))
theorem dX12_code_66 : decode cX12_code 66 = .ok (.aload_n 0, 1) := dk_42 (dkn dmcX12_code (by decide +kernel))
theorem dX12_code_67 : decode cX12_code 67 = .ok (.getfield 16, 3) := dk_180 (a := 0) (b := 16) (dkn dmcX12_code (by decide +kernel)) rfl
theorem dX12_code_70 : decode cX12_code 70 = .ok (.iload 6, 2) := dk_21 (dkn dmcX12_code (by decide +kernel))
theorem dX12_code_72 : decode cX12_code 72 = .ok (.iload_n 3, 1) := dk_29 (dkn dmcX12_code (by decide +kernel))
theorem dX12_code_73 : decode cX12_code 73 = .ok (.iastore, 1) := dk_79 (dkn dmcX12_code (by decide +kernel))
theorem dX12_code_74 : decode cX12_code 74 = .ok (.aload_n 0, 1) := dk_42 (dkn dmcX12_code (by decide +kernel))
theorem dX12_code_75 : decode cX12_code 75 = .ok (.getfield 19, 3) := dk_180 (a := 0) (b := 19) (dkn dmcX12_code (by decide +kernel)) rfl
theorem dX12_code_78 : decode cX12_code 78 = .ok (.iload 6, 2) := dk_21 (dkn dmcX12_code (by decide +kernel))
theorem dX12_code_80 : decode cX12_code 80 = .ok (.iload 4, 2) := dk_21 (dkn dmcX12_code (by decide +kernel))
theorem dX12_code_82 : decode cX12_code 82 = .ok (.iastore, 1) := dk_79 (dkn dmcX12_code (by decide +kernel))
theorem dX12_code_83 : decode cX12_code 83 = .ok (.aload_n 0, 1) := dk_42 (dkn dmcX12_code (by decide +kernel))
theorem dX12_code_84 : decode cX12_code 84 = .ok (.getfield 22, 3) := dk_180 (a := 0) (b := 22) (dkn dmcX12_code (by decide +kernel)) rfl
theorem dX12_code_87 : decode cX12_code 87 = .ok (.iload 6, 2) := dk_21 (dkn dmcX12_code (by decide +kernel))
theorem dX12_code_89 : decode cX12_code 89 = .ok (.iload 5, 2) := dk_21 (dkn dmcX12_code (by decide +kernel))
theorem dX12_code_91 : decode cX12_code 91 = .ok (.iastore, 1) := dk_79 (dkn dmcX12_code (by decide +kernel))
theorem dX12_code_92 : decode cX12_code 92 = .ok (.aload_n 0, 1) := dk_42 (dkn dmcX12_code (by decide +kernel))
theorem dX12_code_93 : decode cX12_code 93 = .ok (.getfield 7, 3) := dk_180 (a := 0) (b := 7) (dkn dmcX12_code (by decide +kernel)) rfl
theorem dX12_code_96 : decode cX12_code 96 = .ok (.iload_n 1, 1) := dk_27 (dkn dmcX12_code (by decide +kernel))
theorem dX12_code_97 : decode cX12_code 97 = .ok (.dup2, 1) := by decide +kernel
theorem dX12_code_98 : decode cX12_code 98 = .ok (.iaload, 1) := dk_46 (dkn dmcX12_code (by decide +kernel))
theorem dX12_code_99 : decode cX12_code 99 = .ok (.iconst 1, 1) := dk_4 (dkn dmcX12_code (by decide +kernel))
theorem dX12_code_100 : decode cX12_code 100 = .ok (.iadd, 1) := dk_96 (dkn dmcX12_code (by decide +kernel))
theorem dX12_code_101 : decode cX12_code 101 = .ok (.iastore, 1) := dk_79 (dkn dmcX12_code (by decide +kernel))
theorem dX12_code_102 : decode cX12_code 102 = .ok (.aload_n 0, 1) := dk_42 (dkn dmcX12_code (by decide +kernel))
theorem dX12_code_103 : decode cX12_code 103 = .ok (.getfield 7, 3) := dk_180 (a := 0) (b := 7) (dkn dmcX12_code (by decide +kernel)) rfl
theorem dX12_code_106 : decode cX12_code 106 = .ok (.iload_n 1, 1) := dk_27 (dkn dmcX12_code (by decide +kernel))
theorem dX12_code_107 : decode cX12_code 107 = .ok (.iaload, 1) := dk_46 (dkn dmcX12_code (by decide +kernel))
theorem dX12_code_108 : decode cX12_code 108 = .ok (.iconst 1, 1) := dk_4 (dkn dmcX12_code (by decide +kernel))
theorem dX12_code_109 : decode cX12_code 109 = .ok (.isub, 1) := dk_100 (dkn dmcX12_code (by decide +kernel))
theorem dX12_code_110 : decode cX12_code 110 = .ok (.ireturn, 1) := dk_172 (dkn dmcX12_code (by decide +kernel))
def dncX12_clear : Nat := 0xac1c4f031b0700b42a3d2e1b0700b42aac0205009aa900b8a7001409851ba400b5032a
theorem dmcX12_clear : dkc dncX12_clear 35 cX12_clear.data.toList 0 = true := by decide +kernel
theorem dX12_clear_0 : decode cX12_clear 0 = .ok (.aload_n 0, 1) := dk_42 (dkn dmcX12_clear (by decide +kernel))
theorem dX12_clear_1 : decode cX12_clear 1 = .ok (.iconst 0, 1) := dk_3 (dkn dmcX12_clear (by decide +kernel))
theorem dX12_clear_2 : decode cX12_clear 2 = .ok (.putfield 164, 3) := dk_181 (a := 0) (b := 164) (dkn dmcX12_clear (by decide +kernel)) rfl
theorem dX12_clear_5 : decode cX12_clear 5 = .ok (.iload_n 1, 1) := dk_27 (dkn dmcX12_clear (by decide +kernel))
theorem dX12_clear_6 : decode cX12_clear 6 = .ok (.i2l, 1) := dk_133 (dkn dmcX12_clear (by decide +kernel))
theorem dX12_clear_7 : decode cX12_clear 7 = .ok (.lconst 0, 1) := dk_9 (dkn dmcX12_clear (by decide +kernel))
theorem dX12_clear_8 : decode cX12_clear 8 = .ok (.ldc2_w 167, 3) := dk_20 (a := 0) (b := 167) (dkn dmcX12_clear (by decide +kernel)) rfl
theorem dX12_clear_11 : decode cX12_clear 11 = .ok (.invokestatic 169, 3) := dk_184 (a := 0) (b := 169) (dkn dmcX12_clear (by decide +kernel)) rfl
theorem dX12_clear_14 : decode cX12_clear 14 = .ok (.ifCond .ne 5, 3) := dk_154 (a := 0) (b := 5) (dkn dmcX12_clear (by decide +kernel)) rfl
theorem dX12_clear_17 : decode cX12_clear 17 = .ok (.iconst (-1), 1) := dk_2 (dkn dmcX12_clear (by decide +kernel))
theorem dX12_clear_18 : decode cX12_clear 18 = .ok (.ireturn, 1) := dk_172 (dkn dmcX12_clear (by decide +kernel))
theorem dX12_clear_19 : decode cX12_clear 19 = .ok (.aload_n 0, 1) := dk_42 (dkn dmcX12_clear (by decide +kernel))
theorem dX12_clear_20 : decode cX12_clear 20 = .ok (.getfield 7, 3) := dk_180 (a := 0) (b := 7) (dkn dmcX12_clear (by decide +kernel)) rfl
theorem dX12_clear_23 : decode cX12_clear 23 = .ok (.iload_n 1, 1) := dk_27 (dkn dmcX12_clear (by decide +kernel))
theorem dX12_clear_24 : decode cX12_clear 24 = .ok (.iaload, 1) := dk_46 (dkn dmcX12_clear (by decide +kernel))
theorem dX12_clear_25 : decode cX12_clear 25 = .ok (.istore_n 2, 1) := dk_61 (dkn dmcX12_clear (by decide +kernel))
theorem dX12_clear_26 : decode cX12_clear 26 = .ok (.aload_n 0, 1) := dk_42 (dkn dmcX12_clear (by decide +kernel))
theorem dX12_clear_27 : decode cX12_clear 27 = .ok (.getfield 7, 3) := dk_180 (a := 0) (b := 7) (dkn dmcX12_clear (by decide +kernel)) rfl
theorem dX12_clear_30 : decode cX12_clear 30 = .ok (.iload_n 1, 1) := dk_27 (dkn dmcX12_clear (by decide +kernel))
theorem dX12_clear_31 : decode cX12_clear 31 = .ok (.iconst 0, 1) := dk_3 (dkn dmcX12_clear (by decide +kernel))
theorem dX12_clear_32 : decode cX12_clear 32 = .ok (.iastore, 1) := dk_79 (dkn dmcX12_clear (by decide +kernel))
theorem dX12_clear_33 : decode cX12_clear 33 = .ok (.iload_n 2, 1) := dk_28 (dkn dmcX12_clear (by decide +kernel))
theorem dX12_clear_34 : decode cX12_clear 34 = .ok (.ireturn, 1) := dk_172 (dkn dmcX12_clear (by decide +kernel))
def dncX12_cell : Nat := 0xac034f1c1b1900b42aac0205009aa900b8af001409851ba400b5032a
theorem dmcX12_cell : dkc dncX12_cell 28 cX12_cell.data.toList 0 = true := by decide +kernel
theorem dX12_cell_0 : decode cX12_cell 0 = .ok (.aload_n 0, 1) := dk_42 (dkn dmcX12_cell (by decide +kernel))
theorem dX12_cell_1 : decode cX12_cell 1 = .ok (.iconst 0, 1) := dk_3 (dkn dmcX12_cell (by decide +kernel))
theorem dX12_cell_2 : decode cX12_cell 2 = .ok (.putfield 164, 3) := dk_181 (a := 0) (b := 164) (dkn dmcX12_cell (by decide +kernel)) rfl
theorem dX12_cell_5 : decode cX12_cell 5 = .ok (.iload_n 1, 1) := dk_27 (dkn dmcX12_cell (by decide +kernel))
theorem dX12_cell_6 : decode cX12_cell 6 = .ok (.i2l, 1) := dk_133 (dkn dmcX12_cell (by decide +kernel))
theorem dX12_cell_7 : decode cX12_cell 7 = .ok (.lconst 0, 1) := dk_9 (dkn dmcX12_cell (by decide +kernel))
theorem dX12_cell_8 : decode cX12_cell 8 = .ok (.ldc2_w 175, 3) := dk_20 (a := 0) (b := 175) (dkn dmcX12_cell (by decide +kernel)) rfl
theorem dX12_cell_11 : decode cX12_cell 11 = .ok (.invokestatic 169, 3) := dk_184 (a := 0) (b := 169) (dkn dmcX12_cell (by decide +kernel)) rfl
theorem dX12_cell_14 : decode cX12_cell 14 = .ok (.ifCond .ne 5, 3) := dk_154 (a := 0) (b := 5) (dkn dmcX12_cell (by decide +kernel)) rfl
theorem dX12_cell_17 : decode cX12_cell 17 = .ok (.iconst (-1), 1) := dk_2 (dkn dmcX12_cell (by decide +kernel))
theorem dX12_cell_18 : decode cX12_cell 18 = .ok (.ireturn, 1) := dk_172 (dkn dmcX12_cell (by decide +kernel))
theorem dX12_cell_19 : decode cX12_cell 19 = .ok (.aload_n 0, 1) := dk_42 (dkn dmcX12_cell (by decide +kernel))
theorem dX12_cell_20 : decode cX12_cell 20 = .ok (.getfield 25, 3) := dk_180 (a := 0) (b := 25) (dkn dmcX12_cell (by decide +kernel)) rfl
theorem dX12_cell_23 : decode cX12_cell 23 = .ok (.iload_n 1, 1) := dk_27 (dkn dmcX12_cell (by decide +kernel))
theorem dX12_cell_24 : decode cX12_cell 24 = .ok (.iload_n 2, 1) := dk_28 (dkn dmcX12_cell (by decide +kernel))
theorem dX12_cell_25 : decode cX12_cell 25 = .ok (.iastore, 1) := dk_79 (dkn dmcX12_cell (by decide +kernel))
theorem dX12_cell_26 : decode cX12_cell 26 = .ok (.iconst 0, 1) := dk_3 (dkn dmcX12_cell (by decide +kernel))
theorem dX12_cell_27 : decode cX12_cell 27 = .ok (.ireturn, 1) := dk_172 (dkn dmcX12_cell (by decide +kernel))
def dncX12_input : Nat := 0xacb100b42ab100b56004b100b4592a4f1bb100b42a1c00b42aacfe100600a01e10b100b42aa400b5032a
theorem dmcX12_input : dkc dncX12_input 42 cX12_input.data.toList 0 = true := by decide +kernel
theorem dX12_input_0 : decode cX12_input 0 = .ok (.aload_n 0, 1) := dk_42 (dkn dmcX12_input (by decide +kernel))
theorem dX12_input_1 : decode cX12_input 1 = .ok (.iconst 0, 1) := dk_3 (dkn dmcX12_input (by decide +kernel))
theorem dX12_input_2 : decode cX12_input 2 = .ok (.putfield 164, 3) := dk_181 (a := 0) (b := 164) (dkn dmcX12_input (by decide +kernel)) rfl
theorem dX12_input_5 : decode cX12_input 5 = .ok (.aload_n 0, 1) := dk_42 (dkn dmcX12_input (by decide +kernel))
theorem dX12_input_6 : decode cX12_input 6 = .ok (.getfield 177, 3) := dk_180 (a := 0) (b := 177) (dkn dmcX12_input (by decide +kernel)) rfl
theorem dX12_input_9 : decode cX12_input 9 = .ok (.bipush 30, 2) := dk_16 (a := 30) (dkn dmcX12_input (by decide +kernel)) rfl
theorem dX12_input_11 : decode cX12_input 11 = .ok (.if_icmp .ne 6, 3) := dk_160 (a := 0) (b := 6) (dkn dmcX12_input (by decide +kernel)) rfl
theorem dX12_input_14 : decode cX12_input 14 = .ok (.bipush (-2), 2) := dk_16 (a := 254) (dkn dmcX12_input (by decide +kernel)) rfl
theorem dX12_input_16 : decode cX12_input 16 = .ok (.ireturn, 1) := dk_172 (dkn dmcX12_input (by decide +kernel))
theorem dX12_input_17 : decode cX12_input 17 = .ok (.aload_n 0, 1) := dk_42 (dkn dmcX12_input (by decide +kernel))
theorem dX12_input_18 : decode cX12_input 18 = .ok (.getfield 28, 3) := dk_180 (a := 0) (b := 28) (dkn dmcX12_input (by decide +kernel)) rfl
theorem dX12_input_21 : decode cX12_input 21 = .ok (.aload_n 0, 1) := dk_42 (dkn dmcX12_input (by decide +kernel))
theorem dX12_input_22 : decode cX12_input 22 = .ok (.getfield 177, 3) := dk_180 (a := 0) (b := 177) (dkn dmcX12_input (by decide +kernel)) rfl
theorem dX12_input_25 : decode cX12_input 25 = .ok (.iload_n 1, 1) := dk_27 (dkn dmcX12_input (by decide +kernel))
theorem dX12_input_26 : decode cX12_input 26 = .ok (.iastore, 1) := dk_79 (dkn dmcX12_input (by decide +kernel))
theorem dX12_input_27 : decode cX12_input 27 = .ok (.aload_n 0, 1) := dk_42 (dkn dmcX12_input (by decide +kernel))
theorem dX12_input_28 : decode cX12_input 28 = .ok (.dup, 1) := dk_89 (dkn dmcX12_input (by decide +kernel))
theorem dX12_input_29 : decode cX12_input 29 = .ok (.getfield 177, 3) := dk_180 (a := 0) (b := 177) (dkn dmcX12_input (by decide +kernel)) rfl
theorem dX12_input_32 : decode cX12_input 32 = .ok (.iconst 1, 1) := dk_4 (dkn dmcX12_input (by decide +kernel))
theorem dX12_input_33 : decode cX12_input 33 = .ok (.iadd, 1) := dk_96 (dkn dmcX12_input (by decide +kernel))
theorem dX12_input_34 : decode cX12_input 34 = .ok (.putfield 177, 3) := dk_181 (a := 0) (b := 177) (dkn dmcX12_input (by decide +kernel)) rfl
theorem dX12_input_37 : decode cX12_input 37 = .ok (.aload_n 0, 1) := dk_42 (dkn dmcX12_input (by decide +kernel))
theorem dX12_input_38 : decode cX12_input 38 = .ok (.getfield 177, 3) := dk_180 (a := 0) (b := 177) (dkn dmcX12_input (by decide +kernel)) rfl
theorem dX12_input_41 : decode cX12_input 41 = .ok (.ireturn, 1) := dk_172 (dkn dmcX12_input (by decide +kernel))
def dncX12_turn : Nat := 0xacb600b42ab600b56004b600b4592a4f1cb600b42a2200b42a4f1bb600b42a1f00b42aacfe100600a02810b600b42aac0205009aa900b8b400140a851c0f0099a900b8a7001409851ba400b5032a
theorem dmcX12_turn : dkc dncX12_turn 78 cX12_turn.data.toList 0 = true := by decide +kernel
theorem dX12_turn_0 : decode cX12_turn 0 = .ok (.aload_n 0, 1) := dk_42 (dkn dmcX12_turn (by decide +kernel))
theorem dX12_turn_1 : decode cX12_turn 1 = .ok (.iconst 0, 1) := dk_3 (dkn dmcX12_turn (by decide +kernel))
theorem dX12_turn_2 : decode cX12_turn 2 = .ok (.putfield 164, 3) := dk_181 (a := 0) (b := 164) (dkn dmcX12_turn (by decide +kernel)) rfl
theorem dX12_turn_5 : decode cX12_turn 5 = .ok (.iload_n 1, 1) := dk_27 (dkn dmcX12_turn (by decide +kernel))
theorem dX12_turn_6 : decode cX12_turn 6 = .ok (.i2l, 1) := dk_133 (dkn dmcX12_turn (by decide +kernel))
theorem dX12_turn_7 : decode cX12_turn 7 = .ok (.lconst 0, 1) := dk_9 (dkn dmcX12_turn (by decide +kernel))
theorem dX12_turn_8 : decode cX12_turn 8 = .ok (.ldc2_w 167, 3) := dk_20 (a := 0) (b := 167) (dkn dmcX12_turn (by decide +kernel)) rfl
theorem dX12_turn_11 : decode cX12_turn 11 = .ok (.invokestatic 169, 3) := dk_184 (a := 0) (b := 169) (dkn dmcX12_turn (by decide +kernel)) rfl
theorem dX12_turn_14 : decode cX12_turn 14 = .ok (.ifCond .eq 15, 3) := dk_153 (a := 0) (b := 15) (dkn dmcX12_turn (by decide +kernel)) rfl
theorem dX12_turn_17 : decode cX12_turn 17 = .ok (.iload_n 2, 1) := dk_28 (dkn dmcX12_turn (by decide +kernel))
theorem dX12_turn_18 : decode cX12_turn 18 = .ok (.i2l, 1) := dk_133 (dkn dmcX12_turn (by decide +kernel))
theorem dX12_turn_19 : decode cX12_turn 19 = .ok (.lconst 1, 1) := dk_10 (dkn dmcX12_turn (by decide +kernel))
theorem dX12_turn_20 : decode cX12_turn 20 = .ok (.ldc2_w 180, 3) := dk_20 (a := 0) (b := 180) (dkn dmcX12_turn (by decide +kernel)) rfl
theorem dX12_turn_23 : decode cX12_turn 23 = .ok (.invokestatic 169, 3) := dk_184 (a := 0) (b := 169) (dkn dmcX12_turn (by decide +kernel)) rfl
theorem dX12_turn_26 : decode cX12_turn 26 = .ok (.ifCond .ne 5, 3) := dk_154 (a := 0) (b := 5) (dkn dmcX12_turn (by decide +kernel)) rfl
theorem dX12_turn_29 : decode cX12_turn 29 = .ok (.iconst (-1), 1) := dk_2 (dkn dmcX12_turn (by decide +kernel))
theorem dX12_turn_30 : decode cX12_turn 30 = .ok (.ireturn, 1) := dk_172 (dkn dmcX12_turn (by decide +kernel))
theorem dX12_turn_31 : decode cX12_turn 31 = .ok (.aload_n 0, 1) := dk_42 (dkn dmcX12_turn (by decide +kernel))
theorem dX12_turn_32 : decode cX12_turn 32 = .ok (.getfield 182, 3) := dk_180 (a := 0) (b := 182) (dkn dmcX12_turn (by decide +kernel)) rfl
theorem dX12_turn_35 : decode cX12_turn 35 = .ok (.bipush 40, 2) := dk_16 (a := 40) (dkn dmcX12_turn (by decide +kernel)) rfl
theorem dX12_turn_37 : decode cX12_turn 37 = .ok (.if_icmp .ne 6, 3) := dk_160 (a := 0) (b := 6) (dkn dmcX12_turn (by decide +kernel)) rfl
theorem dX12_turn_40 : decode cX12_turn 40 = .ok (.bipush (-2), 2) := dk_16 (a := 254) (dkn dmcX12_turn (by decide +kernel)) rfl
theorem dX12_turn_42 : decode cX12_turn 42 = .ok (.ireturn, 1) := dk_172 (dkn dmcX12_turn (by decide +kernel))
theorem dX12_turn_43 : decode cX12_turn 43 = .ok (.aload_n 0, 1) := dk_42 (dkn dmcX12_turn (by decide +kernel))
theorem dX12_turn_44 : decode cX12_turn 44 = .ok (.getfield 31, 3) := dk_180 (a := 0) (b := 31) (dkn dmcX12_turn (by decide +kernel)) rfl
theorem dX12_turn_47 : decode cX12_turn 47 = .ok (.aload_n 0, 1) := dk_42 (dkn dmcX12_turn (by decide +kernel))
theorem dX12_turn_48 : decode cX12_turn 48 = .ok (.getfield 182, 3) := dk_180 (a := 0) (b := 182) (dkn dmcX12_turn (by decide +kernel)) rfl
theorem dX12_turn_51 : decode cX12_turn 51 = .ok (.iload_n 1, 1) := dk_27 (dkn dmcX12_turn (by decide +kernel))
theorem dX12_turn_52 : decode cX12_turn 52 = .ok (.iastore, 1) := dk_79 (dkn dmcX12_turn (by decide +kernel))
theorem dX12_turn_53 : decode cX12_turn 53 = .ok (.aload_n 0, 1) := dk_42 (dkn dmcX12_turn (by decide +kernel))
theorem dX12_turn_54 : decode cX12_turn 54 = .ok (.getfield 34, 3) := dk_180 (a := 0) (b := 34) (dkn dmcX12_turn (by decide +kernel)) rfl
theorem dX12_turn_57 : decode cX12_turn 57 = .ok (.aload_n 0, 1) := dk_42 (dkn dmcX12_turn (by decide +kernel))
theorem dX12_turn_58 : decode cX12_turn 58 = .ok (.getfield 182, 3) := dk_180 (a := 0) (b := 182) (dkn dmcX12_turn (by decide +kernel)) rfl
theorem dX12_turn_61 : decode cX12_turn 61 = .ok (.iload_n 2, 1) := dk_28 (dkn dmcX12_turn (by decide +kernel))
theorem dX12_turn_62 : decode cX12_turn 62 = .ok (.iastore, 1) := dk_79 (dkn dmcX12_turn (by decide +kernel))
theorem dX12_turn_63 : decode cX12_turn 63 = .ok (.aload_n 0, 1) := dk_42 (dkn dmcX12_turn (by decide +kernel))
theorem dX12_turn_64 : decode cX12_turn 64 = .ok (.dup, 1) := dk_89 (dkn dmcX12_turn (by decide +kernel))
theorem dX12_turn_65 : decode cX12_turn 65 = .ok (.getfield 182, 3) := dk_180 (a := 0) (b := 182) (dkn dmcX12_turn (by decide +kernel)) rfl
theorem dX12_turn_68 : decode cX12_turn 68 = .ok (.iconst 1, 1) := dk_4 (dkn dmcX12_turn (by decide +kernel))
theorem dX12_turn_69 : decode cX12_turn 69 = .ok (.iadd, 1) := dk_96 (dkn dmcX12_turn (by decide +kernel))
theorem dX12_turn_70 : decode cX12_turn 70 = .ok (.putfield 182, 3) := dk_181 (a := 0) (b := 182) (dkn dmcX12_turn (by decide +kernel)) rfl
theorem dX12_turn_73 : decode cX12_turn 73 = .ok (.aload_n 0, 1) := dk_42 (dkn dmcX12_turn (by decide +kernel))
theorem dX12_turn_74 : decode cX12_turn 74 = .ok (.getfield 182, 3) := dk_180 (a := 0) (b := 182) (dkn dmcX12_turn (by decide +kernel)) rfl
theorem dX12_turn_77 : decode cX12_turn 77 = .ok (.ireturn, 1) := dk_172 (dkn dmcX12_turn (by decide +kernel))
theorem dX12_freely_0 : decode cX12_freely 0 = .ok (.aload_n 0, 1) := dk_42 (by decide +kernel)
theorem dX12_freely_1 : decode cX12_freely 1 = .ok (.iconst 0, 1) := dk_3 (by decide +kernel)
theorem dX12_freely_2 : decode cX12_freely 2 = .ok (.putfield 164, 3) := dk_181 (a := 0) (b := 164) (by decide +kernel) rfl
theorem dX12_freely_5 : decode cX12_freely 5 = .ok (.aload_n 0, 1) := dk_42 (by decide +kernel)
theorem dX12_freely_6 : decode cX12_freely 6 = .ok (.getfield 182, 3) := dk_180 (a := 0) (b := 182) (by decide +kernel) rfl
theorem dX12_freely_9 : decode cX12_freely 9 = .ok (.istore_n 1, 1) := dk_60 (by decide +kernel)
theorem dX12_freely_10 : decode cX12_freely 10 = .ok (.aload_n 0, 1) := dk_42 (by decide +kernel)
theorem dX12_freely_11 : decode cX12_freely 11 = .ok (.iconst 0, 1) := dk_3 (by decide +kernel)
theorem dX12_freely_12 : decode cX12_freely 12 = .ok (.putfield 182, 3) := dk_181 (a := 0) (b := 182) (by decide +kernel) rfl
theorem dX12_freely_15 : decode cX12_freely 15 = .ok (.iload_n 1, 1) := dk_27 (by decide +kernel)
theorem dX12_freely_16 : decode cX12_freely 16 = .ok (.ireturn, 1) := dk_172 (by decide +kernel)
def dncX12_begin : Nat := 0xb1c800b5032ac500b5032ac200b5032abf00b5032abc00b5032ab900b5032ac6ffa70101844f021b3500b42a4f021b3200b42a54030400a70407009a1b1b2e00b42a4f18100500a70307009e2e1b0700b42a1b2b00b42a3b00a2071b3c03daffa70101844f030400a72e1b1900b42a0c00a20c101b1b2800b42a4f031b2500b42a2600a21c101b3c03
theorem dmcX12_begin : dkc dncX12_begin 137 cX12_begin.data.toList 0 = true := by decide +kernel
theorem dX12_begin_0 : decode cX12_begin 0 = .ok (.iconst 0, 1) := dk_3 (dkn dmcX12_begin (by decide +kernel))
theorem dX12_begin_1 : decode cX12_begin 1 = .ok (.istore_n 1, 1) := dk_60 (dkn dmcX12_begin (by decide +kernel))
theorem dX12_begin_2 : decode cX12_begin 2 = .ok (.iload_n 1, 1) := dk_27 (dkn dmcX12_begin (by decide +kernel))
theorem dX12_begin_3 : decode cX12_begin 3 = .ok (.bipush 28, 2) := dk_16 (a := 28) (dkn dmcX12_begin (by decide +kernel)) rfl
theorem dX12_begin_5 : decode cX12_begin 5 = .ok (.if_icmp .ge 38, 3) := dk_162 (a := 0) (b := 38) (dkn dmcX12_begin (by decide +kernel)) rfl
theorem dX12_begin_8 : decode cX12_begin 8 = .ok (.aload_n 0, 1) := dk_42 (dkn dmcX12_begin (by decide +kernel))
theorem dX12_begin_9 : decode cX12_begin 9 = .ok (.getfield 37, 3) := dk_180 (a := 0) (b := 37) (dkn dmcX12_begin (by decide +kernel)) rfl
theorem dX12_begin_12 : decode cX12_begin 12 = .ok (.iload_n 1, 1) := dk_27 (dkn dmcX12_begin (by decide +kernel))
theorem dX12_begin_13 : decode cX12_begin 13 = .ok (.iconst 0, 1) := dk_3 (dkn dmcX12_begin (by decide +kernel))
theorem dX12_begin_14 : decode cX12_begin 14 = .ok (.iastore, 1) := dk_79 (dkn dmcX12_begin (by decide +kernel))
theorem dX12_begin_15 : decode cX12_begin 15 = .ok (.aload_n 0, 1) := dk_42 (dkn dmcX12_begin (by decide +kernel))
theorem dX12_begin_16 : decode cX12_begin 16 = .ok (.getfield 40, 3) := dk_180 (a := 0) (b := 40) (dkn dmcX12_begin (by decide +kernel)) rfl
theorem dX12_begin_19 : decode cX12_begin 19 = .ok (.iload_n 1, 1) := dk_27 (dkn dmcX12_begin (by decide +kernel))
theorem dX12_begin_20 : decode cX12_begin 20 = .ok (.iload_n 1, 1) := dk_27 (dkn dmcX12_begin (by decide +kernel))
theorem dX12_begin_21 : decode cX12_begin 21 = .ok (.bipush 12, 2) := dk_16 (a := 12) (dkn dmcX12_begin (by decide +kernel)) rfl
theorem dX12_begin_23 : decode cX12_begin 23 = .ok (.if_icmp .ge 12, 3) := dk_162 (a := 0) (b := 12) (dkn dmcX12_begin (by decide +kernel)) rfl
theorem dX12_begin_26 : decode cX12_begin 26 = .ok (.aload_n 0, 1) := dk_42 (dkn dmcX12_begin (by decide +kernel))
theorem dX12_begin_27 : decode cX12_begin 27 = .ok (.getfield 25, 3) := dk_180 (a := 0) (b := 25) (dkn dmcX12_begin (by decide +kernel)) rfl
theorem dX12_begin_30 : decode cX12_begin 30 = .ok (.iload_n 1, 1) := dk_27 (dkn dmcX12_begin (by decide +kernel))
theorem dX12_begin_31 : decode cX12_begin 31 = .ok (.iaload, 1) := dk_46 (dkn dmcX12_begin (by decide +kernel))
theorem dX12_begin_32 : decode cX12_begin 32 = .ok (.goto 4, 3) := dk_167 (a := 0) (b := 4) (dkn dmcX12_begin (by decide +kernel)) rfl
theorem dX12_begin_35 : decode cX12_begin 35 = .ok (.iconst 0, 1) := dk_3 (dkn dmcX12_begin (by decide +kernel))
theorem dX12_begin_36 : decode cX12_begin 36 = .ok (.iastore, 1) := dk_79 (dkn dmcX12_begin (by decide +kernel))
theorem dX12_begin_37 : decode cX12_begin 37 = .ok (.iinc 1 1, 3) := dk_132 (b := 1) (dkn dmcX12_begin (by decide +kernel)) rfl
theorem dX12_begin_40 : decode cX12_begin 40 = .ok (.goto (-38), 3) := dk_167 (a := 255) (b := 218) (dkn dmcX12_begin (by decide +kernel)) rfl
theorem dX12_begin_43 : decode cX12_begin 43 = .ok (.iconst 0, 1) := dk_3 (dkn dmcX12_begin (by decide +kernel))
theorem dX12_begin_44 : decode cX12_begin 44 = .ok (.istore_n 1, 1) := dk_60 (dkn dmcX12_begin (by decide +kernel))
theorem dX12_begin_45 : decode cX12_begin 45 = .ok (.iload_n 1, 1) := dk_27 (dkn dmcX12_begin (by decide +kernel))
theorem dX12_begin_46 : decode cX12_begin 46 = .ok (.iconst 4, 1) := dk_7 (dkn dmcX12_begin (by decide +kernel))
theorem dX12_begin_47 : decode cX12_begin 47 = .ok (.if_icmp .ge 59, 3) := dk_162 (a := 0) (b := 59) (dkn dmcX12_begin (by decide +kernel)) rfl
theorem dX12_begin_50 : decode cX12_begin 50 = .ok (.aload_n 0, 1) := dk_42 (dkn dmcX12_begin (by decide +kernel))
theorem dX12_begin_51 : decode cX12_begin 51 = .ok (.getfield 43, 3) := dk_180 (a := 0) (b := 43) (dkn dmcX12_begin (by decide +kernel)) rfl
theorem dX12_begin_54 : decode cX12_begin 54 = .ok (.iload_n 1, 1) := dk_27 (dkn dmcX12_begin (by decide +kernel))
theorem dX12_begin_55 : decode cX12_begin 55 = .ok (.aload_n 0, 1) := dk_42 (dkn dmcX12_begin (by decide +kernel))
theorem dX12_begin_56 : decode cX12_begin 56 = .ok (.getfield 7, 3) := dk_180 (a := 0) (b := 7) (dkn dmcX12_begin (by decide +kernel)) rfl
theorem dX12_begin_59 : decode cX12_begin 59 = .ok (.iload_n 1, 1) := dk_27 (dkn dmcX12_begin (by decide +kernel))
theorem dX12_begin_60 : decode cX12_begin 60 = .ok (.iaload, 1) := dk_46 (dkn dmcX12_begin (by decide +kernel))
theorem dX12_begin_61 : decode cX12_begin 61 = .ok (.ifCond .le 7, 3) := dk_158 (a := 0) (b := 7) (dkn dmcX12_begin (by decide +kernel)) rfl
theorem dX12_begin_64 : decode cX12_begin 64 = .ok (.iconst 0, 1) := dk_3 (dkn dmcX12_begin (by decide +kernel))
theorem dX12_begin_65 : decode cX12_begin 65 = .ok (.goto 5, 3) := dk_167 (a := 0) (b := 5) (dkn dmcX12_begin (by decide +kernel)) rfl
theorem dX12_begin_68 : decode cX12_begin 68 = .ok (.bipush 24, 2) := dk_16 (a := 24) (dkn dmcX12_begin (by decide +kernel)) rfl
theorem dX12_begin_70 : decode cX12_begin 70 = .ok (.iastore, 1) := dk_79 (dkn dmcX12_begin (by decide +kernel))
theorem dX12_begin_71 : decode cX12_begin 71 = .ok (.aload_n 0, 1) := dk_42 (dkn dmcX12_begin (by decide +kernel))
theorem dX12_begin_72 : decode cX12_begin 72 = .ok (.getfield 46, 3) := dk_180 (a := 0) (b := 46) (dkn dmcX12_begin (by decide +kernel)) rfl
theorem dX12_begin_75 : decode cX12_begin 75 = .ok (.iload_n 1, 1) := dk_27 (dkn dmcX12_begin (by decide +kernel))
theorem dX12_begin_76 : decode cX12_begin 76 = .ok (.iload_n 1, 1) := dk_27 (dkn dmcX12_begin (by decide +kernel))
theorem dX12_begin_77 : decode cX12_begin 77 = .ok (.ifCond .ne 7, 3) := dk_154 (a := 0) (b := 7) (dkn dmcX12_begin (by decide +kernel)) rfl
theorem dX12_begin_80 : decode cX12_begin 80 = .ok (.iconst 1, 1) := dk_4 (dkn dmcX12_begin (by decide +kernel))
theorem dX12_begin_81 : decode cX12_begin 81 = .ok (.goto 4, 3) := dk_167 (a := 0) (b := 4) (dkn dmcX12_begin (by decide +kernel)) rfl
theorem dX12_begin_84 : decode cX12_begin 84 = .ok (.iconst 0, 1) := dk_3 (dkn dmcX12_begin (by decide +kernel))
theorem dX12_begin_85 : decode cX12_begin 85 = .ok (.bastore, 1) := dk_84 (dkn dmcX12_begin (by decide +kernel))
theorem dX12_begin_86 : decode cX12_begin 86 = .ok (.aload_n 0, 1) := dk_42 (dkn dmcX12_begin (by decide +kernel))
theorem dX12_begin_87 : decode cX12_begin 87 = .ok (.getfield 50, 3) := dk_180 (a := 0) (b := 50) (dkn dmcX12_begin (by decide +kernel)) rfl
theorem dX12_begin_90 : decode cX12_begin 90 = .ok (.iload_n 1, 1) := dk_27 (dkn dmcX12_begin (by decide +kernel))
theorem dX12_begin_91 : decode cX12_begin 91 = .ok (.iconst (-1), 1) := dk_2 (dkn dmcX12_begin (by decide +kernel))
theorem dX12_begin_92 : decode cX12_begin 92 = .ok (.iastore, 1) := dk_79 (dkn dmcX12_begin (by decide +kernel))
theorem dX12_begin_93 : decode cX12_begin 93 = .ok (.aload_n 0, 1) := dk_42 (dkn dmcX12_begin (by decide +kernel))
theorem dX12_begin_94 : decode cX12_begin 94 = .ok (.getfield 53, 3) := dk_180 (a := 0) (b := 53) (dkn dmcX12_begin (by decide +kernel)) rfl
theorem dX12_begin_97 : decode cX12_begin 97 = .ok (.iload_n 1, 1) := dk_27 (dkn dmcX12_begin (by decide +kernel))
theorem dX12_begin_98 : decode cX12_begin 98 = .ok (.iconst (-1), 1) := dk_2 (dkn dmcX12_begin (by decide +kernel))
theorem dX12_begin_99 : decode cX12_begin 99 = .ok (.iastore, 1) := dk_79 (dkn dmcX12_begin (by decide +kernel))
theorem dX12_begin_100 : decode cX12_begin 100 = .ok (.iinc 1 1, 3) := dk_132 (b := 1) (dkn dmcX12_begin (by decide +kernel)) rfl
theorem dX12_begin_103 : decode cX12_begin 103 = .ok (.goto (-58), 3) := dk_167 (a := 255) (b := 198) (dkn dmcX12_begin (by decide +kernel)) rfl
theorem dX12_begin_106 : decode cX12_begin 106 = .ok (.aload_n 0, 1) := dk_42 (dkn dmcX12_begin (by decide +kernel))
theorem dX12_begin_107 : decode cX12_begin 107 = .ok (.iconst 0, 1) := dk_3 (dkn dmcX12_begin (by decide +kernel))
theorem dX12_begin_108 : decode cX12_begin 108 = .ok (.putfield 185, 3) := dk_181 (a := 0) (b := 185) (dkn dmcX12_begin (by decide +kernel)) rfl
theorem dX12_begin_111 : decode cX12_begin 111 = .ok (.aload_n 0, 1) := dk_42 (dkn dmcX12_begin (by decide +kernel))
theorem dX12_begin_112 : decode cX12_begin 112 = .ok (.iconst 0, 1) := dk_3 (dkn dmcX12_begin (by decide +kernel))
theorem dX12_begin_113 : decode cX12_begin 113 = .ok (.putfield 188, 3) := dk_181 (a := 0) (b := 188) (dkn dmcX12_begin (by decide +kernel)) rfl
theorem dX12_begin_116 : decode cX12_begin 116 = .ok (.aload_n 0, 1) := dk_42 (dkn dmcX12_begin (by decide +kernel))
theorem dX12_begin_117 : decode cX12_begin 117 = .ok (.iconst 0, 1) := dk_3 (dkn dmcX12_begin (by decide +kernel))
theorem dX12_begin_118 : decode cX12_begin 118 = .ok (.putfield 191, 3) := dk_181 (a := 0) (b := 191) (dkn dmcX12_begin (by decide +kernel)) rfl
theorem dX12_begin_121 : decode cX12_begin 121 = .ok (.aload_n 0, 1) := dk_42 (dkn dmcX12_begin (by decide +kernel))
theorem dX12_begin_122 : decode cX12_begin 122 = .ok (.iconst 0, 1) := dk_3 (dkn dmcX12_begin (by decide +kernel))
theorem dX12_begin_123 : decode cX12_begin 123 = .ok (.putfield 194, 3) := dk_181 (a := 0) (b := 194) (dkn dmcX12_begin (by decide +kernel)) rfl
theorem dX12_begin_126 : decode cX12_begin 126 = .ok (.aload_n 0, 1) := dk_42 (dkn dmcX12_begin (by decide +kernel))
theorem dX12_begin_127 : decode cX12_begin 127 = .ok (.iconst 0, 1) := dk_3 (dkn dmcX12_begin (by decide +kernel))
theorem dX12_begin_128 : decode cX12_begin 128 = .ok (.putfield 197, 3) := dk_181 (a := 0) (b := 197) (dkn dmcX12_begin (by decide +kernel)) rfl
theorem dX12_begin_131 : decode cX12_begin 131 = .ok (.aload_n 0, 1) := dk_42 (dkn dmcX12_begin (by decide +kernel))
theorem dX12_begin_132 : decode cX12_begin 132 = .ok (.iconst 0, 1) := dk_3 (dkn dmcX12_begin (by decide +kernel))
theorem dX12_begin_133 : decode cX12_begin 133 = .ok (.putfield 200, 3) := dk_181 (a := 0) (b := 200) (dkn dmcX12_begin (by decide +kernel)) rfl
theorem dX12_begin_136 : decode cX12_begin 136 = .ok (.return_, 1) := dk_177 (dkn dmcX12_begin (by decide +kernel))
theorem dX12_local_0 : decode cX12_local 0 = .ok (.bipush 12, 2) := dk_16 (a := 12) (by decide +kernel) rfl
theorem dX12_local_2 : decode cX12_local 2 = .ok (.iconst 4, 1) := dk_7 (by decide +kernel)
theorem dX12_local_3 : decode cX12_local 3 = .ok (.iload_n 1, 1) := dk_27 (by decide +kernel)
theorem dX12_local_4 : decode cX12_local 4 = .ok (.imul, 1) := dk_104 (by decide +kernel)
theorem dX12_local_5 : decode cX12_local 5 = .ok (.iadd, 1) := dk_96 (by decide +kernel)
theorem dX12_local_6 : decode cX12_local 6 = .ok (.iload_n 2, 1) := dk_28 (by decide +kernel)
theorem dX12_local_7 : decode cX12_local 7 = .ok (.iconst 4, 1) := dk_7 (by decide +kernel)
theorem dX12_local_8 : decode cX12_local 8 = .ok (.invokestatic 204, 3) := dk_184 (a := 0) (b := 204) (by decide +kernel) rfl
theorem dX12_local_11 : decode cX12_local 11 = .ok (.iadd, 1) := dk_96 (by decide +kernel)
theorem dX12_local_12 : decode cX12_local 12 = .ok (.ireturn, 1) := dk_172 (by decide +kernel)
def dncX12_isLock : Nat := 0xac030400a7040700a0062e1b2500b42a0d009f052e1b2500b42a
theorem dmcX12_isLock : dkc dncX12_isLock 26 cX12_isLock.data.toList 0 = true := by decide +kernel
theorem dX12_isLock_0 : decode cX12_isLock 0 = .ok (.aload_n 0, 1) := dk_42 (dkn dmcX12_isLock (by decide +kernel))
theorem dX12_isLock_1 : decode cX12_isLock 1 = .ok (.getfield 37, 3) := dk_180 (a := 0) (b := 37) (dkn dmcX12_isLock (by decide +kernel)) rfl
theorem dX12_isLock_4 : decode cX12_isLock 4 = .ok (.iload_n 1, 1) := dk_27 (dkn dmcX12_isLock (by decide +kernel))
theorem dX12_isLock_5 : decode cX12_isLock 5 = .ok (.iaload, 1) := dk_46 (dkn dmcX12_isLock (by decide +kernel))
theorem dX12_isLock_6 : decode cX12_isLock 6 = .ok (.iconst 2, 1) := dk_5 (dkn dmcX12_isLock (by decide +kernel))
theorem dX12_isLock_7 : decode cX12_isLock 7 = .ok (.if_icmp .eq 13, 3) := dk_159 (a := 0) (b := 13) (dkn dmcX12_isLock (by decide +kernel)) rfl
theorem dX12_isLock_10 : decode cX12_isLock 10 = .ok (.aload_n 0, 1) := dk_42 (dkn dmcX12_isLock (by decide +kernel))
theorem dX12_isLock_11 : decode cX12_isLock 11 = .ok (.getfield 37, 3) := dk_180 (a := 0) (b := 37) (dkn dmcX12_isLock (by decide +kernel)) rfl
theorem dX12_isLock_14 : decode cX12_isLock 14 = .ok (.iload_n 1, 1) := dk_27 (dkn dmcX12_isLock (by decide +kernel))
theorem dX12_isLock_15 : decode cX12_isLock 15 = .ok (.iaload, 1) := dk_46 (dkn dmcX12_isLock (by decide +kernel))
theorem dX12_isLock_16 : decode cX12_isLock 16 = .ok (.iconst 3, 1) := dk_6 (dkn dmcX12_isLock (by decide +kernel))
theorem dX12_isLock_17 : decode cX12_isLock 17 = .ok (.if_icmp .ne 7, 3) := dk_160 (a := 0) (b := 7) (dkn dmcX12_isLock (by decide +kernel)) rfl
theorem dX12_isLock_20 : decode cX12_isLock 20 = .ok (.iconst 1, 1) := dk_4 (dkn dmcX12_isLock (by decide +kernel))
theorem dX12_isLock_21 : decode cX12_isLock 21 = .ok (.goto 4, 3) := dk_167 (a := 0) (b := 4) (dkn dmcX12_isLock (by decide +kernel)) rfl
theorem dX12_isLock_24 : decode cX12_isLock 24 = .ok (.iconst 0, 1) := dk_3 (dkn dmcX12_isLock (by decide +kernel))
theorem dX12_isLock_25 : decode cX12_isLock 25 = .ok (.ireturn, 1) := dk_172 (dkn dmcX12_isLock (by decide +kernel))
def dncX12_canGo : Nat := 0xac030400a7040700a01b2e2e1d2800b42a3b00b42a12009b2e2e1d2800b42a3b00b42a20009904150436030400a704070099d300b61d2a0f00a00c102e1c0d00b42a3ed000b62e1c1000b42a1b2a3d602e1b2b00b42a681b1810ac030400a70407009c2e2e1b3500b42a3b00b42a17009b2e1b3500b42aac0305009b2e1b3200b42a0c009f18102e1b2b00b42a170099331b2e00b42a
theorem dmcX12_canGo : dkc dncX12_canGo 150 cX12_canGo.data.toList 0 = true := by decide +kernel
theorem dX12_canGo_0 : decode cX12_canGo 0 = .ok (.aload_n 0, 1) := dk_42 (dkn dmcX12_canGo (by decide +kernel))
theorem dX12_canGo_1 : decode cX12_canGo 1 = .ok (.getfield 46, 3) := dk_180 (a := 0) (b := 46) (dkn dmcX12_canGo (by decide +kernel)) rfl
theorem dX12_canGo_4 : decode cX12_canGo 4 = .ok (.iload_n 1, 1) := dk_27 (dkn dmcX12_canGo (by decide +kernel))
theorem dX12_canGo_5 : decode cX12_canGo 5 = .ok (.baload, 1) := dk_51 (dkn dmcX12_canGo (by decide +kernel))
theorem dX12_canGo_6 : decode cX12_canGo 6 = .ok (.ifCond .eq 23, 3) := dk_153 (a := 0) (b := 23) (dkn dmcX12_canGo (by decide +kernel)) rfl
theorem dX12_canGo_9 : decode cX12_canGo 9 = .ok (.aload_n 0, 1) := dk_42 (dkn dmcX12_canGo (by decide +kernel))
theorem dX12_canGo_10 : decode cX12_canGo 10 = .ok (.getfield 43, 3) := dk_180 (a := 0) (b := 43) (dkn dmcX12_canGo (by decide +kernel)) rfl
theorem dX12_canGo_13 : decode cX12_canGo 13 = .ok (.iload_n 1, 1) := dk_27 (dkn dmcX12_canGo (by decide +kernel))
theorem dX12_canGo_14 : decode cX12_canGo 14 = .ok (.iaload, 1) := dk_46 (dkn dmcX12_canGo (by decide +kernel))
theorem dX12_canGo_15 : decode cX12_canGo 15 = .ok (.bipush 24, 2) := dk_16 (a := 24) (dkn dmcX12_canGo (by decide +kernel)) rfl
theorem dX12_canGo_17 : decode cX12_canGo 17 = .ok (.if_icmp .eq 12, 3) := dk_159 (a := 0) (b := 12) (dkn dmcX12_canGo (by decide +kernel)) rfl
theorem dX12_canGo_20 : decode cX12_canGo 20 = .ok (.aload_n 0, 1) := dk_42 (dkn dmcX12_canGo (by decide +kernel))
theorem dX12_canGo_21 : decode cX12_canGo 21 = .ok (.getfield 50, 3) := dk_180 (a := 0) (b := 50) (dkn dmcX12_canGo (by decide +kernel)) rfl
theorem dX12_canGo_24 : decode cX12_canGo 24 = .ok (.iload_n 1, 1) := dk_27 (dkn dmcX12_canGo (by decide +kernel))
theorem dX12_canGo_25 : decode cX12_canGo 25 = .ok (.iaload, 1) := dk_46 (dkn dmcX12_canGo (by decide +kernel))
theorem dX12_canGo_26 : decode cX12_canGo 26 = .ok (.ifCond .lt 5, 3) := dk_155 (a := 0) (b := 5) (dkn dmcX12_canGo (by decide +kernel)) rfl
theorem dX12_canGo_29 : decode cX12_canGo 29 = .ok (.iconst 0, 1) := dk_3 (dkn dmcX12_canGo (by decide +kernel))
theorem dX12_canGo_30 : decode cX12_canGo 30 = .ok (.ireturn, 1) := dk_172 (dkn dmcX12_canGo (by decide +kernel))
theorem dX12_canGo_31 : decode cX12_canGo 31 = .ok (.aload_n 0, 1) := dk_42 (dkn dmcX12_canGo (by decide +kernel))
theorem dX12_canGo_32 : decode cX12_canGo 32 = .ok (.getfield 53, 3) := dk_180 (a := 0) (b := 53) (dkn dmcX12_canGo (by decide +kernel)) rfl
theorem dX12_canGo_35 : decode cX12_canGo 35 = .ok (.iload_n 1, 1) := dk_27 (dkn dmcX12_canGo (by decide +kernel))
theorem dX12_canGo_36 : decode cX12_canGo 36 = .ok (.iaload, 1) := dk_46 (dkn dmcX12_canGo (by decide +kernel))
theorem dX12_canGo_37 : decode cX12_canGo 37 = .ok (.ifCond .lt 23, 3) := dk_155 (a := 0) (b := 23) (dkn dmcX12_canGo (by decide +kernel)) rfl
theorem dX12_canGo_40 : decode cX12_canGo 40 = .ok (.aload_n 0, 1) := dk_42 (dkn dmcX12_canGo (by decide +kernel))
theorem dX12_canGo_41 : decode cX12_canGo 41 = .ok (.getfield 59, 3) := dk_180 (a := 0) (b := 59) (dkn dmcX12_canGo (by decide +kernel)) rfl
theorem dX12_canGo_44 : decode cX12_canGo 44 = .ok (.aload_n 0, 1) := dk_42 (dkn dmcX12_canGo (by decide +kernel))
theorem dX12_canGo_45 : decode cX12_canGo 45 = .ok (.getfield 53, 3) := dk_180 (a := 0) (b := 53) (dkn dmcX12_canGo (by decide +kernel)) rfl
theorem dX12_canGo_48 : decode cX12_canGo 48 = .ok (.iload_n 1, 1) := dk_27 (dkn dmcX12_canGo (by decide +kernel))
theorem dX12_canGo_49 : decode cX12_canGo 49 = .ok (.iaload, 1) := dk_46 (dkn dmcX12_canGo (by decide +kernel))
theorem dX12_canGo_50 : decode cX12_canGo 50 = .ok (.iaload, 1) := dk_46 (dkn dmcX12_canGo (by decide +kernel))
theorem dX12_canGo_51 : decode cX12_canGo 51 = .ok (.ifCond .ge 7, 3) := dk_156 (a := 0) (b := 7) (dkn dmcX12_canGo (by decide +kernel)) rfl
theorem dX12_canGo_54 : decode cX12_canGo 54 = .ok (.iconst 1, 1) := dk_4 (dkn dmcX12_canGo (by decide +kernel))
theorem dX12_canGo_55 : decode cX12_canGo 55 = .ok (.goto 4, 3) := dk_167 (a := 0) (b := 4) (dkn dmcX12_canGo (by decide +kernel)) rfl
theorem dX12_canGo_58 : decode cX12_canGo 58 = .ok (.iconst 0, 1) := dk_3 (dkn dmcX12_canGo (by decide +kernel))
theorem dX12_canGo_59 : decode cX12_canGo 59 = .ok (.ireturn, 1) := dk_172 (dkn dmcX12_canGo (by decide +kernel))
theorem dX12_canGo_60 : decode cX12_canGo 60 = .ok (.bipush 24, 2) := dk_16 (a := 24) (dkn dmcX12_canGo (by decide +kernel)) rfl
theorem dX12_canGo_62 : decode cX12_canGo 62 = .ok (.iload_n 1, 1) := dk_27 (dkn dmcX12_canGo (by decide +kernel))
theorem dX12_canGo_63 : decode cX12_canGo 63 = .ok (.imul, 1) := dk_104 (dkn dmcX12_canGo (by decide +kernel))
theorem dX12_canGo_64 : decode cX12_canGo 64 = .ok (.aload_n 0, 1) := dk_42 (dkn dmcX12_canGo (by decide +kernel))
theorem dX12_canGo_65 : decode cX12_canGo 65 = .ok (.getfield 43, 3) := dk_180 (a := 0) (b := 43) (dkn dmcX12_canGo (by decide +kernel)) rfl
theorem dX12_canGo_68 : decode cX12_canGo 68 = .ok (.iload_n 1, 1) := dk_27 (dkn dmcX12_canGo (by decide +kernel))
theorem dX12_canGo_69 : decode cX12_canGo 69 = .ok (.iaload, 1) := dk_46 (dkn dmcX12_canGo (by decide +kernel))
theorem dX12_canGo_70 : decode cX12_canGo 70 = .ok (.iadd, 1) := dk_96 (dkn dmcX12_canGo (by decide +kernel))
theorem dX12_canGo_71 : decode cX12_canGo 71 = .ok (.istore_n 2, 1) := dk_61 (dkn dmcX12_canGo (by decide +kernel))
theorem dX12_canGo_72 : decode cX12_canGo 72 = .ok (.aload_n 0, 1) := dk_42 (dkn dmcX12_canGo (by decide +kernel))
theorem dX12_canGo_73 : decode cX12_canGo 73 = .ok (.iload_n 1, 1) := dk_27 (dkn dmcX12_canGo (by decide +kernel))
theorem dX12_canGo_74 : decode cX12_canGo 74 = .ok (.aload_n 0, 1) := dk_42 (dkn dmcX12_canGo (by decide +kernel))
theorem dX12_canGo_75 : decode cX12_canGo 75 = .ok (.getfield 16, 3) := dk_180 (a := 0) (b := 16) (dkn dmcX12_canGo (by decide +kernel)) rfl
theorem dX12_canGo_78 : decode cX12_canGo 78 = .ok (.iload_n 2, 1) := dk_28 (dkn dmcX12_canGo (by decide +kernel))
theorem dX12_canGo_79 : decode cX12_canGo 79 = .ok (.iaload, 1) := dk_46 (dkn dmcX12_canGo (by decide +kernel))
theorem dX12_canGo_80 : decode cX12_canGo 80 = .ok (.invokevirtual 208, 3) := dk_182 (a := 0) (b := 208) (dkn dmcX12_canGo (by decide +kernel)) rfl
theorem dX12_canGo_83 : decode cX12_canGo 83 = .ok (.istore_n 3, 1) := dk_62 (dkn dmcX12_canGo (by decide +kernel))
theorem dX12_canGo_84 : decode cX12_canGo 84 = .ok (.aload_n 0, 1) := dk_42 (dkn dmcX12_canGo (by decide +kernel))
theorem dX12_canGo_85 : decode cX12_canGo 85 = .ok (.getfield 13, 3) := dk_180 (a := 0) (b := 13) (dkn dmcX12_canGo (by decide +kernel)) rfl
theorem dX12_canGo_88 : decode cX12_canGo 88 = .ok (.iload_n 2, 1) := dk_28 (dkn dmcX12_canGo (by decide +kernel))
theorem dX12_canGo_89 : decode cX12_canGo 89 = .ok (.iaload, 1) := dk_46 (dkn dmcX12_canGo (by decide +kernel))
theorem dX12_canGo_90 : decode cX12_canGo 90 = .ok (.bipush 12, 2) := dk_16 (a := 12) (dkn dmcX12_canGo (by decide +kernel)) rfl
theorem dX12_canGo_92 : decode cX12_canGo 92 = .ok (.if_icmp .ne 15, 3) := dk_160 (a := 0) (b := 15) (dkn dmcX12_canGo (by decide +kernel)) rfl
theorem dX12_canGo_95 : decode cX12_canGo 95 = .ok (.aload_n 0, 1) := dk_42 (dkn dmcX12_canGo (by decide +kernel))
theorem dX12_canGo_96 : decode cX12_canGo 96 = .ok (.iload_n 3, 1) := dk_29 (dkn dmcX12_canGo (by decide +kernel))
theorem dX12_canGo_97 : decode cX12_canGo 97 = .ok (.invokevirtual 211, 3) := dk_182 (a := 0) (b := 211) (dkn dmcX12_canGo (by decide +kernel)) rfl
theorem dX12_canGo_100 : decode cX12_canGo 100 = .ok (.ifCond .eq 7, 3) := dk_153 (a := 0) (b := 7) (dkn dmcX12_canGo (by decide +kernel)) rfl
theorem dX12_canGo_103 : decode cX12_canGo 103 = .ok (.iconst 1, 1) := dk_4 (dkn dmcX12_canGo (by decide +kernel))
theorem dX12_canGo_104 : decode cX12_canGo 104 = .ok (.goto 4, 3) := dk_167 (a := 0) (b := 4) (dkn dmcX12_canGo (by decide +kernel)) rfl
theorem dX12_canGo_107 : decode cX12_canGo 107 = .ok (.iconst 0, 1) := dk_3 (dkn dmcX12_canGo (by decide +kernel))
theorem dX12_canGo_108 : decode cX12_canGo 108 = .ok (.istore 4, 2) := dk_54 (dkn dmcX12_canGo (by decide +kernel))
theorem dX12_canGo_110 : decode cX12_canGo 110 = .ok (.iload 4, 2) := dk_21 (dkn dmcX12_canGo (by decide +kernel))
theorem dX12_canGo_112 : decode cX12_canGo 112 = .ok (.ifCond .eq 32, 3) := dk_153 (a := 0) (b := 32) (dkn dmcX12_canGo (by decide +kernel)) rfl
theorem dX12_canGo_115 : decode cX12_canGo 115 = .ok (.aload_n 0, 1) := dk_42 (dkn dmcX12_canGo (by decide +kernel))
theorem dX12_canGo_116 : decode cX12_canGo 116 = .ok (.getfield 59, 3) := dk_180 (a := 0) (b := 59) (dkn dmcX12_canGo (by decide +kernel)) rfl
theorem dX12_canGo_119 : decode cX12_canGo 119 = .ok (.aload_n 0, 1) := dk_42 (dkn dmcX12_canGo (by decide +kernel))
theorem dX12_canGo_120 : decode cX12_canGo 120 = .ok (.getfield 40, 3) := dk_180 (a := 0) (b := 40) (dkn dmcX12_canGo (by decide +kernel)) rfl
theorem dX12_canGo_123 : decode cX12_canGo 123 = .ok (.iload_n 3, 1) := dk_29 (dkn dmcX12_canGo (by decide +kernel))
theorem dX12_canGo_124 : decode cX12_canGo 124 = .ok (.iaload, 1) := dk_46 (dkn dmcX12_canGo (by decide +kernel))
theorem dX12_canGo_125 : decode cX12_canGo 125 = .ok (.iaload, 1) := dk_46 (dkn dmcX12_canGo (by decide +kernel))
theorem dX12_canGo_126 : decode cX12_canGo 126 = .ok (.ifCond .lt 18, 3) := dk_155 (a := 0) (b := 18) (dkn dmcX12_canGo (by decide +kernel)) rfl
theorem dX12_canGo_129 : decode cX12_canGo 129 = .ok (.aload_n 0, 1) := dk_42 (dkn dmcX12_canGo (by decide +kernel))
theorem dX12_canGo_130 : decode cX12_canGo 130 = .ok (.getfield 59, 3) := dk_180 (a := 0) (b := 59) (dkn dmcX12_canGo (by decide +kernel)) rfl
theorem dX12_canGo_133 : decode cX12_canGo 133 = .ok (.aload_n 0, 1) := dk_42 (dkn dmcX12_canGo (by decide +kernel))
theorem dX12_canGo_134 : decode cX12_canGo 134 = .ok (.getfield 40, 3) := dk_180 (a := 0) (b := 40) (dkn dmcX12_canGo (by decide +kernel)) rfl
theorem dX12_canGo_137 : decode cX12_canGo 137 = .ok (.iload_n 3, 1) := dk_29 (dkn dmcX12_canGo (by decide +kernel))
theorem dX12_canGo_138 : decode cX12_canGo 138 = .ok (.iaload, 1) := dk_46 (dkn dmcX12_canGo (by decide +kernel))
theorem dX12_canGo_139 : decode cX12_canGo 139 = .ok (.iaload, 1) := dk_46 (dkn dmcX12_canGo (by decide +kernel))
theorem dX12_canGo_140 : decode cX12_canGo 140 = .ok (.iload_n 1, 1) := dk_27 (dkn dmcX12_canGo (by decide +kernel))
theorem dX12_canGo_141 : decode cX12_canGo 141 = .ok (.if_icmp .ne 7, 3) := dk_160 (a := 0) (b := 7) (dkn dmcX12_canGo (by decide +kernel)) rfl
theorem dX12_canGo_144 : decode cX12_canGo 144 = .ok (.iconst 1, 1) := dk_4 (dkn dmcX12_canGo (by decide +kernel))
theorem dX12_canGo_145 : decode cX12_canGo 145 = .ok (.goto 4, 3) := dk_167 (a := 0) (b := 4) (dkn dmcX12_canGo (by decide +kernel)) rfl
theorem dX12_canGo_148 : decode cX12_canGo 148 = .ok (.iconst 0, 1) := dk_3 (dkn dmcX12_canGo (by decide +kernel))
theorem dX12_canGo_149 : decode cX12_canGo 149 = .ok (.ireturn, 1) := dk_172 (dkn dmcX12_canGo (by decide +kernel))
def dncX12_state : Nat := 0xac050400a704070099d700b61b2a1000a70607009b2e1b3200b42a1d00a7070700a018102e1b2b00b42a2c00a70307009a331b2e00b42a
theorem dmcX12_state : dkc dncX12_state 55 cX12_state.data.toList 0 = true := by decide +kernel
theorem dX12_state_0 : decode cX12_state 0 = .ok (.aload_n 0, 1) := dk_42 (dkn dmcX12_state (by decide +kernel))
theorem dX12_state_1 : decode cX12_state 1 = .ok (.getfield 46, 3) := dk_180 (a := 0) (b := 46) (dkn dmcX12_state (by decide +kernel)) rfl
theorem dX12_state_4 : decode cX12_state 4 = .ok (.iload_n 1, 1) := dk_27 (dkn dmcX12_state (by decide +kernel))
theorem dX12_state_5 : decode cX12_state 5 = .ok (.baload, 1) := dk_51 (dkn dmcX12_state (by decide +kernel))
theorem dX12_state_6 : decode cX12_state 6 = .ok (.ifCond .ne 7, 3) := dk_154 (a := 0) (b := 7) (dkn dmcX12_state (by decide +kernel)) rfl
theorem dX12_state_9 : decode cX12_state 9 = .ok (.iconst 0, 1) := dk_3 (dkn dmcX12_state (by decide +kernel))
theorem dX12_state_10 : decode cX12_state 10 = .ok (.goto 44, 3) := dk_167 (a := 0) (b := 44) (dkn dmcX12_state (by decide +kernel)) rfl
theorem dX12_state_13 : decode cX12_state 13 = .ok (.aload_n 0, 1) := dk_42 (dkn dmcX12_state (by decide +kernel))
theorem dX12_state_14 : decode cX12_state 14 = .ok (.getfield 43, 3) := dk_180 (a := 0) (b := 43) (dkn dmcX12_state (by decide +kernel)) rfl
theorem dX12_state_17 : decode cX12_state 17 = .ok (.iload_n 1, 1) := dk_27 (dkn dmcX12_state (by decide +kernel))
theorem dX12_state_18 : decode cX12_state 18 = .ok (.iaload, 1) := dk_46 (dkn dmcX12_state (by decide +kernel))
theorem dX12_state_19 : decode cX12_state 19 = .ok (.bipush 24, 2) := dk_16 (a := 24) (dkn dmcX12_state (by decide +kernel)) rfl
theorem dX12_state_21 : decode cX12_state 21 = .ok (.if_icmp .ne 7, 3) := dk_160 (a := 0) (b := 7) (dkn dmcX12_state (by decide +kernel)) rfl
theorem dX12_state_24 : decode cX12_state 24 = .ok (.iconst 4, 1) := dk_7 (dkn dmcX12_state (by decide +kernel))
theorem dX12_state_25 : decode cX12_state 25 = .ok (.goto 29, 3) := dk_167 (a := 0) (b := 29) (dkn dmcX12_state (by decide +kernel)) rfl
theorem dX12_state_28 : decode cX12_state 28 = .ok (.aload_n 0, 1) := dk_42 (dkn dmcX12_state (by decide +kernel))
theorem dX12_state_29 : decode cX12_state 29 = .ok (.getfield 50, 3) := dk_180 (a := 0) (b := 50) (dkn dmcX12_state (by decide +kernel)) rfl
theorem dX12_state_32 : decode cX12_state 32 = .ok (.iload_n 1, 1) := dk_27 (dkn dmcX12_state (by decide +kernel))
theorem dX12_state_33 : decode cX12_state 33 = .ok (.iaload, 1) := dk_46 (dkn dmcX12_state (by decide +kernel))
theorem dX12_state_34 : decode cX12_state 34 = .ok (.ifCond .lt 7, 3) := dk_155 (a := 0) (b := 7) (dkn dmcX12_state (by decide +kernel)) rfl
theorem dX12_state_37 : decode cX12_state 37 = .ok (.iconst 3, 1) := dk_6 (dkn dmcX12_state (by decide +kernel))
theorem dX12_state_38 : decode cX12_state 38 = .ok (.goto 16, 3) := dk_167 (a := 0) (b := 16) (dkn dmcX12_state (by decide +kernel)) rfl
theorem dX12_state_41 : decode cX12_state 41 = .ok (.aload_n 0, 1) := dk_42 (dkn dmcX12_state (by decide +kernel))
theorem dX12_state_42 : decode cX12_state 42 = .ok (.iload_n 1, 1) := dk_27 (dkn dmcX12_state (by decide +kernel))
theorem dX12_state_43 : decode cX12_state 43 = .ok (.invokevirtual 215, 3) := dk_182 (a := 0) (b := 215) (dkn dmcX12_state (by decide +kernel)) rfl
theorem dX12_state_46 : decode cX12_state 46 = .ok (.ifCond .eq 7, 3) := dk_153 (a := 0) (b := 7) (dkn dmcX12_state (by decide +kernel)) rfl
theorem dX12_state_49 : decode cX12_state 49 = .ok (.iconst 1, 1) := dk_4 (dkn dmcX12_state (by decide +kernel))
theorem dX12_state_50 : decode cX12_state 50 = .ok (.goto 4, 3) := dk_167 (a := 0) (b := 4) (dkn dmcX12_state (by decide +kernel)) rfl
theorem dX12_state_53 : decode cX12_state 53 = .ok (.iconst 2, 1) := dk_5 (dkn dmcX12_state (by decide +kernel))
theorem dX12_state_54 : decode cX12_state 54 = .ok (.ireturn, 1) := dk_172 (dkn dmcX12_state (by decide +kernel))
def dncX12_goTo : Nat := 0xb14f1c0400a718100800a12e1b0700b42a1c0d009b1c1b2b00b42a
theorem dmcX12_goTo : dkc dncX12_goTo 27 cX12_goTo.data.toList 0 = true := by decide +kernel
theorem dX12_goTo_0 : decode cX12_goTo 0 = .ok (.aload_n 0, 1) := dk_42 (dkn dmcX12_goTo (by decide +kernel))
theorem dX12_goTo_1 : decode cX12_goTo 1 = .ok (.getfield 43, 3) := dk_180 (a := 0) (b := 43) (dkn dmcX12_goTo (by decide +kernel)) rfl
theorem dX12_goTo_4 : decode cX12_goTo 4 = .ok (.iload_n 1, 1) := dk_27 (dkn dmcX12_goTo (by decide +kernel))
theorem dX12_goTo_5 : decode cX12_goTo 5 = .ok (.iload_n 2, 1) := dk_28 (dkn dmcX12_goTo (by decide +kernel))
theorem dX12_goTo_6 : decode cX12_goTo 6 = .ok (.ifCond .lt 13, 3) := dk_155 (a := 0) (b := 13) (dkn dmcX12_goTo (by decide +kernel)) rfl
theorem dX12_goTo_9 : decode cX12_goTo 9 = .ok (.iload_n 2, 1) := dk_28 (dkn dmcX12_goTo (by decide +kernel))
theorem dX12_goTo_10 : decode cX12_goTo 10 = .ok (.aload_n 0, 1) := dk_42 (dkn dmcX12_goTo (by decide +kernel))
theorem dX12_goTo_11 : decode cX12_goTo 11 = .ok (.getfield 7, 3) := dk_180 (a := 0) (b := 7) (dkn dmcX12_goTo (by decide +kernel)) rfl
theorem dX12_goTo_14 : decode cX12_goTo 14 = .ok (.iload_n 1, 1) := dk_27 (dkn dmcX12_goTo (by decide +kernel))
theorem dX12_goTo_15 : decode cX12_goTo 15 = .ok (.iaload, 1) := dk_46 (dkn dmcX12_goTo (by decide +kernel))
theorem dX12_goTo_16 : decode cX12_goTo 16 = .ok (.if_icmp .lt 8, 3) := dk_161 (a := 0) (b := 8) (dkn dmcX12_goTo (by decide +kernel)) rfl
theorem dX12_goTo_19 : decode cX12_goTo 19 = .ok (.bipush 24, 2) := dk_16 (a := 24) (dkn dmcX12_goTo (by decide +kernel)) rfl
theorem dX12_goTo_21 : decode cX12_goTo 21 = .ok (.goto 4, 3) := dk_167 (a := 0) (b := 4) (dkn dmcX12_goTo (by decide +kernel)) rfl
theorem dX12_goTo_24 : decode cX12_goTo 24 = .ok (.iload_n 2, 1) := dk_28 (dkn dmcX12_goTo (by decide +kernel))
theorem dX12_goTo_25 : decode cX12_goTo 25 = .ok (.iastore, 1) := dk_79 (dkn dmcX12_goTo (by decide +kernel))
theorem dX12_goTo_26 : decode cX12_goTo 26 = .ok (.return_, 1) := dk_177 (dkn dmcX12_goTo (by decide +kernel))
theorem dX12_set_0 : decode cX12_set 0 = .ok (.aload_n 0, 1) := dk_42 (by decide +kernel)
theorem dX12_set_1 : decode cX12_set 1 = .ok (.getfield 37, 3) := dk_180 (a := 0) (b := 37) (by decide +kernel) rfl
theorem dX12_set_4 : decode cX12_set 4 = .ok (.iload_n 1, 1) := dk_27 (by decide +kernel)
theorem dX12_set_5 : decode cX12_set 5 = .ok (.iload_n 2, 1) := dk_28 (by decide +kernel)
theorem dX12_set_6 : decode cX12_set 6 = .ok (.iastore, 1) := dk_79 (by decide +kernel)
theorem dX12_set_7 : decode cX12_set 7 = .ok (.aload_n 0, 1) := dk_42 (by decide +kernel)
theorem dX12_set_8 : decode cX12_set 8 = .ok (.getfield 40, 3) := dk_180 (a := 0) (b := 40) (by decide +kernel) rfl
theorem dX12_set_11 : decode cX12_set 11 = .ok (.iload_n 1, 1) := dk_27 (by decide +kernel)
theorem dX12_set_12 : decode cX12_set 12 = .ok (.iload_n 3, 1) := dk_29 (by decide +kernel)
theorem dX12_set_13 : decode cX12_set 13 = .ok (.iastore, 1) := dk_79 (by decide +kernel)
theorem dX12_set_14 : decode cX12_set 14 = .ok (.return_, 1) := dk_177 (by decide +kernel)
def dncX12_newThing : Nat := 0xac1db900b56004b900b4592ae9ffa70104844f03600415681d10104100b42a1600a2101004150436034f1c1d3e00b42a4f021d3b00b42a4f1b1d3800b42a3eb900b42a
theorem dmcX12_newThing : dkc dncX12_newThing 67 cX12_newThing.data.toList 0 = true := by decide +kernel
theorem dX12_newThing_0 : decode cX12_newThing 0 = .ok (.aload_n 0, 1) := dk_42 (dkn dmcX12_newThing (by decide +kernel))
theorem dX12_newThing_1 : decode cX12_newThing 1 = .ok (.getfield 185, 3) := dk_180 (a := 0) (b := 185) (dkn dmcX12_newThing (by decide +kernel)) rfl
theorem dX12_newThing_4 : decode cX12_newThing 4 = .ok (.istore_n 3, 1) := dk_62 (dkn dmcX12_newThing (by decide +kernel))
theorem dX12_newThing_5 : decode cX12_newThing 5 = .ok (.aload_n 0, 1) := dk_42 (dkn dmcX12_newThing (by decide +kernel))
theorem dX12_newThing_6 : decode cX12_newThing 6 = .ok (.getfield 56, 3) := dk_180 (a := 0) (b := 56) (dkn dmcX12_newThing (by decide +kernel)) rfl
theorem dX12_newThing_9 : decode cX12_newThing 9 = .ok (.iload_n 3, 1) := dk_29 (dkn dmcX12_newThing (by decide +kernel))
theorem dX12_newThing_10 : decode cX12_newThing 10 = .ok (.iload_n 1, 1) := dk_27 (dkn dmcX12_newThing (by decide +kernel))
theorem dX12_newThing_11 : decode cX12_newThing 11 = .ok (.iastore, 1) := dk_79 (dkn dmcX12_newThing (by decide +kernel))
theorem dX12_newThing_12 : decode cX12_newThing 12 = .ok (.aload_n 0, 1) := dk_42 (dkn dmcX12_newThing (by decide +kernel))
theorem dX12_newThing_13 : decode cX12_newThing 13 = .ok (.getfield 59, 3) := dk_180 (a := 0) (b := 59) (dkn dmcX12_newThing (by decide +kernel)) rfl
theorem dX12_newThing_16 : decode cX12_newThing 16 = .ok (.iload_n 3, 1) := dk_29 (dkn dmcX12_newThing (by decide +kernel))
theorem dX12_newThing_17 : decode cX12_newThing 17 = .ok (.iconst (-1), 1) := dk_2 (dkn dmcX12_newThing (by decide +kernel))
theorem dX12_newThing_18 : decode cX12_newThing 18 = .ok (.iastore, 1) := dk_79 (dkn dmcX12_newThing (by decide +kernel))
theorem dX12_newThing_19 : decode cX12_newThing 19 = .ok (.aload_n 0, 1) := dk_42 (dkn dmcX12_newThing (by decide +kernel))
theorem dX12_newThing_20 : decode cX12_newThing 20 = .ok (.getfield 62, 3) := dk_180 (a := 0) (b := 62) (dkn dmcX12_newThing (by decide +kernel)) rfl
theorem dX12_newThing_23 : decode cX12_newThing 23 = .ok (.iload_n 3, 1) := dk_29 (dkn dmcX12_newThing (by decide +kernel))
theorem dX12_newThing_24 : decode cX12_newThing 24 = .ok (.iload_n 2, 1) := dk_28 (dkn dmcX12_newThing (by decide +kernel))
theorem dX12_newThing_25 : decode cX12_newThing 25 = .ok (.iastore, 1) := dk_79 (dkn dmcX12_newThing (by decide +kernel))
theorem dX12_newThing_26 : decode cX12_newThing 26 = .ok (.iconst 0, 1) := dk_3 (dkn dmcX12_newThing (by decide +kernel))
theorem dX12_newThing_27 : decode cX12_newThing 27 = .ok (.istore 4, 2) := dk_54 (dkn dmcX12_newThing (by decide +kernel))
theorem dX12_newThing_29 : decode cX12_newThing 29 = .ok (.iload 4, 2) := dk_21 (dkn dmcX12_newThing (by decide +kernel))
theorem dX12_newThing_31 : decode cX12_newThing 31 = .ok (.bipush 16, 2) := dk_16 (a := 16) (dkn dmcX12_newThing (by decide +kernel)) rfl
theorem dX12_newThing_33 : decode cX12_newThing 33 = .ok (.if_icmp .ge 22, 3) := dk_162 (a := 0) (b := 22) (dkn dmcX12_newThing (by decide +kernel)) rfl
theorem dX12_newThing_36 : decode cX12_newThing 36 = .ok (.aload_n 0, 1) := dk_42 (dkn dmcX12_newThing (by decide +kernel))
theorem dX12_newThing_37 : decode cX12_newThing 37 = .ok (.getfield 65, 3) := dk_180 (a := 0) (b := 65) (dkn dmcX12_newThing (by decide +kernel)) rfl
theorem dX12_newThing_40 : decode cX12_newThing 40 = .ok (.bipush 16, 2) := dk_16 (a := 16) (dkn dmcX12_newThing (by decide +kernel)) rfl
theorem dX12_newThing_42 : decode cX12_newThing 42 = .ok (.iload_n 3, 1) := dk_29 (dkn dmcX12_newThing (by decide +kernel))
theorem dX12_newThing_43 : decode cX12_newThing 43 = .ok (.imul, 1) := dk_104 (dkn dmcX12_newThing (by decide +kernel))
theorem dX12_newThing_44 : decode cX12_newThing 44 = .ok (.iload 4, 2) := dk_21 (dkn dmcX12_newThing (by decide +kernel))
theorem dX12_newThing_46 : decode cX12_newThing 46 = .ok (.iadd, 1) := dk_96 (dkn dmcX12_newThing (by decide +kernel))
theorem dX12_newThing_47 : decode cX12_newThing 47 = .ok (.iconst 0, 1) := dk_3 (dkn dmcX12_newThing (by decide +kernel))
theorem dX12_newThing_48 : decode cX12_newThing 48 = .ok (.iastore, 1) := dk_79 (dkn dmcX12_newThing (by decide +kernel))
theorem dX12_newThing_49 : decode cX12_newThing 49 = .ok (.iinc 4 1, 3) := dk_132 (b := 1) (dkn dmcX12_newThing (by decide +kernel)) rfl
theorem dX12_newThing_52 : decode cX12_newThing 52 = .ok (.goto (-23), 3) := dk_167 (a := 255) (b := 233) (dkn dmcX12_newThing (by decide +kernel)) rfl
theorem dX12_newThing_55 : decode cX12_newThing 55 = .ok (.aload_n 0, 1) := dk_42 (dkn dmcX12_newThing (by decide +kernel))
theorem dX12_newThing_56 : decode cX12_newThing 56 = .ok (.dup, 1) := dk_89 (dkn dmcX12_newThing (by decide +kernel))
theorem dX12_newThing_57 : decode cX12_newThing 57 = .ok (.getfield 185, 3) := dk_180 (a := 0) (b := 185) (dkn dmcX12_newThing (by decide +kernel)) rfl
theorem dX12_newThing_60 : decode cX12_newThing 60 = .ok (.iconst 1, 1) := dk_4 (dkn dmcX12_newThing (by decide +kernel))
theorem dX12_newThing_61 : decode cX12_newThing 61 = .ok (.iadd, 1) := dk_96 (dkn dmcX12_newThing (by decide +kernel))
theorem dX12_newThing_62 : decode cX12_newThing 62 = .ok (.putfield 185, 3) := dk_181 (a := 0) (b := 185) (dkn dmcX12_newThing (by decide +kernel)) rfl
theorem dX12_newThing_65 : decode cX12_newThing 65 = .ok (.iload_n 3, 1) := dk_29 (dkn dmcX12_newThing (by decide +kernel))
theorem dX12_newThing_66 : decode cX12_newThing 66 = .ok (.ireturn, 1) := dk_172 (dkn dmcX12_newThing (by decide +kernel))
def dncX12_why : Nat := 0xac03ac60cc00b80a1006150a10ac03ac030400a707100800a0b100b42abc00b42a13009ada00b42aac030400a7061008009f1b2e2e1d2800b42a3b00b42a1800a70407009f062e1d2500b42aac030400a7061008009f1b2e2e1d2800b42a3b00b42a1800a70407009ad300b61d2aac030400a7080700a01b2e2e1d2800b42a3b00b42a1700a70407009ad300b61d2aac030400a7060700a00c10b900b42aac030400a70707009aa900b88564042e2e1d2800b42a3e00b42a09852e04152800b42a2500a7040700992e05152500b42a0d009a2e04152500b42a1700a0042e1d2500b42aac030400a70707009aa900b88564042e2e04152800b42a3e00b42a09852e05152800b42a2600a7040700992e05152500b42a0d00a0042e04152500b42aac030400a7060700a00c10b900b42a0c00a310102e04152800b42a1d00a70507009c2e04152800b42a2b00a7040700992e04152500b42aac030400a7040700992e1d2500b42aac030400a7040700992e04152500b42a0d009a2e1d2500b42ac1010000bf010000a60100008201000082010000600100003f01000030010000eb000000ae0000007700000068000000cc0100004f0000004f0000004f0000001200000003000000cc0100000000aa1c
theorem dmcX12_why : dkc dncX12_why 463 cX12_why.data.toList 0 = true := by decide +kernel
theorem dX12_why_0 : decode cX12_why 0 = .ok (.iload_n 2, 1) := dk_28 (dkn dmcX12_why (by decide +kernel))
theorem dX12_why_1 : decode cX12_why 1 = .ok (.tableswitch 460 3 18 #[79, 79, 79, 460, 104, 119, 174, 235, 304, 319, 352, 386, 386, 422, 447, 449], 79) := by decide +kernel
theorem dX12_why_80 : decode cX12_why 80 = .ok (.aload_n 0, 1) := dk_42 (dkn dmcX12_why (by decide +kernel))
theorem dX12_why_81 : decode cX12_why 81 = .ok (.getfield 37, 3) := dk_180 (a := 0) (b := 37) (dkn dmcX12_why (by decide +kernel)) rfl
theorem dX12_why_84 : decode cX12_why 84 = .ok (.iload_n 3, 1) := dk_29 (dkn dmcX12_why (by decide +kernel))
theorem dX12_why_85 : decode cX12_why 85 = .ok (.iaload, 1) := dk_46 (dkn dmcX12_why (by decide +kernel))
theorem dX12_why_86 : decode cX12_why 86 = .ok (.ifCond .ne 13, 3) := dk_154 (a := 0) (b := 13) (dkn dmcX12_why (by decide +kernel)) rfl
theorem dX12_why_89 : decode cX12_why 89 = .ok (.aload_n 0, 1) := dk_42 (dkn dmcX12_why (by decide +kernel))
theorem dX12_why_90 : decode cX12_why 90 = .ok (.getfield 37, 3) := dk_180 (a := 0) (b := 37) (dkn dmcX12_why (by decide +kernel)) rfl
theorem dX12_why_93 : decode cX12_why 93 = .ok (.iload 4, 2) := dk_21 (dkn dmcX12_why (by decide +kernel))
theorem dX12_why_95 : decode cX12_why 95 = .ok (.iaload, 1) := dk_46 (dkn dmcX12_why (by decide +kernel))
theorem dX12_why_96 : decode cX12_why 96 = .ok (.ifCond .eq 7, 3) := dk_153 (a := 0) (b := 7) (dkn dmcX12_why (by decide +kernel)) rfl
theorem dX12_why_99 : decode cX12_why 99 = .ok (.iconst 1, 1) := dk_4 (dkn dmcX12_why (by decide +kernel))
theorem dX12_why_100 : decode cX12_why 100 = .ok (.goto 4, 3) := dk_167 (a := 0) (b := 4) (dkn dmcX12_why (by decide +kernel)) rfl
theorem dX12_why_103 : decode cX12_why 103 = .ok (.iconst 0, 1) := dk_3 (dkn dmcX12_why (by decide +kernel))
theorem dX12_why_104 : decode cX12_why 104 = .ok (.ireturn, 1) := dk_172 (dkn dmcX12_why (by decide +kernel))
theorem dX12_why_105 : decode cX12_why 105 = .ok (.aload_n 0, 1) := dk_42 (dkn dmcX12_why (by decide +kernel))
theorem dX12_why_106 : decode cX12_why 106 = .ok (.getfield 37, 3) := dk_180 (a := 0) (b := 37) (dkn dmcX12_why (by decide +kernel)) rfl
theorem dX12_why_109 : decode cX12_why 109 = .ok (.iload_n 3, 1) := dk_29 (dkn dmcX12_why (by decide +kernel))
theorem dX12_why_110 : decode cX12_why 110 = .ok (.iaload, 1) := dk_46 (dkn dmcX12_why (by decide +kernel))
theorem dX12_why_111 : decode cX12_why 111 = .ok (.ifCond .eq 7, 3) := dk_153 (a := 0) (b := 7) (dkn dmcX12_why (by decide +kernel)) rfl
theorem dX12_why_114 : decode cX12_why 114 = .ok (.iconst 1, 1) := dk_4 (dkn dmcX12_why (by decide +kernel))
theorem dX12_why_115 : decode cX12_why 115 = .ok (.goto 4, 3) := dk_167 (a := 0) (b := 4) (dkn dmcX12_why (by decide +kernel)) rfl
theorem dX12_why_118 : decode cX12_why 118 = .ok (.iconst 0, 1) := dk_3 (dkn dmcX12_why (by decide +kernel))
theorem dX12_why_119 : decode cX12_why 119 = .ok (.ireturn, 1) := dk_172 (dkn dmcX12_why (by decide +kernel))
theorem dX12_why_120 : decode cX12_why 120 = .ok (.aload_n 0, 1) := dk_42 (dkn dmcX12_why (by decide +kernel))
theorem dX12_why_121 : decode cX12_why 121 = .ok (.getfield 37, 3) := dk_180 (a := 0) (b := 37) (dkn dmcX12_why (by decide +kernel)) rfl
theorem dX12_why_124 : decode cX12_why 124 = .ok (.iload 4, 2) := dk_21 (dkn dmcX12_why (by decide +kernel))
theorem dX12_why_126 : decode cX12_why 126 = .ok (.iaload, 1) := dk_46 (dkn dmcX12_why (by decide +kernel))
theorem dX12_why_127 : decode cX12_why 127 = .ok (.ifCond .eq 7, 3) := dk_153 (a := 0) (b := 7) (dkn dmcX12_why (by decide +kernel)) rfl
theorem dX12_why_130 : decode cX12_why 130 = .ok (.iconst 1, 1) := dk_4 (dkn dmcX12_why (by decide +kernel))
theorem dX12_why_131 : decode cX12_why 131 = .ok (.goto 43, 3) := dk_167 (a := 0) (b := 43) (dkn dmcX12_why (by decide +kernel)) rfl
theorem dX12_why_134 : decode cX12_why 134 = .ok (.aload_n 0, 1) := dk_42 (dkn dmcX12_why (by decide +kernel))
theorem dX12_why_135 : decode cX12_why 135 = .ok (.getfield 40, 3) := dk_180 (a := 0) (b := 40) (dkn dmcX12_why (by decide +kernel)) rfl
theorem dX12_why_138 : decode cX12_why 138 = .ok (.iload 4, 2) := dk_21 (dkn dmcX12_why (by decide +kernel))
theorem dX12_why_140 : decode cX12_why 140 = .ok (.iaload, 1) := dk_46 (dkn dmcX12_why (by decide +kernel))
theorem dX12_why_141 : decode cX12_why 141 = .ok (.ifCond .ge 7, 3) := dk_156 (a := 0) (b := 7) (dkn dmcX12_why (by decide +kernel)) rfl
theorem dX12_why_144 : decode cX12_why 144 = .ok (.iconst 2, 1) := dk_5 (dkn dmcX12_why (by decide +kernel))
theorem dX12_why_145 : decode cX12_why 145 = .ok (.goto 29, 3) := dk_167 (a := 0) (b := 29) (dkn dmcX12_why (by decide +kernel)) rfl
theorem dX12_why_148 : decode cX12_why 148 = .ok (.aload_n 0, 1) := dk_42 (dkn dmcX12_why (by decide +kernel))
theorem dX12_why_149 : decode cX12_why 149 = .ok (.getfield 40, 3) := dk_180 (a := 0) (b := 40) (dkn dmcX12_why (by decide +kernel)) rfl
theorem dX12_why_152 : decode cX12_why 152 = .ok (.iload 4, 2) := dk_21 (dkn dmcX12_why (by decide +kernel))
theorem dX12_why_154 : decode cX12_why 154 = .ok (.iaload, 1) := dk_46 (dkn dmcX12_why (by decide +kernel))
theorem dX12_why_155 : decode cX12_why 155 = .ok (.bipush 16, 2) := dk_16 (a := 16) (dkn dmcX12_why (by decide +kernel)) rfl
theorem dX12_why_157 : decode cX12_why 157 = .ok (.if_icmp .gt 12, 3) := dk_163 (a := 0) (b := 12) (dkn dmcX12_why (by decide +kernel)) rfl
theorem dX12_why_160 : decode cX12_why 160 = .ok (.aload_n 0, 1) := dk_42 (dkn dmcX12_why (by decide +kernel))
theorem dX12_why_161 : decode cX12_why 161 = .ok (.getfield 185, 3) := dk_180 (a := 0) (b := 185) (dkn dmcX12_why (by decide +kernel)) rfl
theorem dX12_why_164 : decode cX12_why 164 = .ok (.bipush 12, 2) := dk_16 (a := 12) (dkn dmcX12_why (by decide +kernel)) rfl
theorem dX12_why_166 : decode cX12_why 166 = .ok (.if_icmp .ne 7, 3) := dk_160 (a := 0) (b := 7) (dkn dmcX12_why (by decide +kernel)) rfl
theorem dX12_why_169 : decode cX12_why 169 = .ok (.iconst 3, 1) := dk_6 (dkn dmcX12_why (by decide +kernel))
theorem dX12_why_170 : decode cX12_why 170 = .ok (.goto 4, 3) := dk_167 (a := 0) (b := 4) (dkn dmcX12_why (by decide +kernel)) rfl
theorem dX12_why_173 : decode cX12_why 173 = .ok (.iconst 0, 1) := dk_3 (dkn dmcX12_why (by decide +kernel))
theorem dX12_why_174 : decode cX12_why 174 = .ok (.ireturn, 1) := dk_172 (dkn dmcX12_why (by decide +kernel))
theorem dX12_why_175 : decode cX12_why 175 = .ok (.aload_n 0, 1) := dk_42 (dkn dmcX12_why (by decide +kernel))
theorem dX12_why_176 : decode cX12_why 176 = .ok (.getfield 37, 3) := dk_180 (a := 0) (b := 37) (dkn dmcX12_why (by decide +kernel)) rfl
theorem dX12_why_179 : decode cX12_why 179 = .ok (.iload 4, 2) := dk_21 (dkn dmcX12_why (by decide +kernel))
theorem dX12_why_181 : decode cX12_why 181 = .ok (.iaload, 1) := dk_46 (dkn dmcX12_why (by decide +kernel))
theorem dX12_why_182 : decode cX12_why 182 = .ok (.iconst 1, 1) := dk_4 (dkn dmcX12_why (by decide +kernel))
theorem dX12_why_183 : decode cX12_why 183 = .ok (.if_icmp .ne 13, 3) := dk_160 (a := 0) (b := 13) (dkn dmcX12_why (by decide +kernel)) rfl
theorem dX12_why_186 : decode cX12_why 186 = .ok (.aload_n 0, 1) := dk_42 (dkn dmcX12_why (by decide +kernel))
theorem dX12_why_187 : decode cX12_why 187 = .ok (.getfield 37, 3) := dk_180 (a := 0) (b := 37) (dkn dmcX12_why (by decide +kernel)) rfl
theorem dX12_why_190 : decode cX12_why 190 = .ok (.iload 5, 2) := dk_21 (dkn dmcX12_why (by decide +kernel))
theorem dX12_why_192 : decode cX12_why 192 = .ok (.iaload, 1) := dk_46 (dkn dmcX12_why (by decide +kernel))
theorem dX12_why_193 : decode cX12_why 193 = .ok (.ifCond .eq 7, 3) := dk_153 (a := 0) (b := 7) (dkn dmcX12_why (by decide +kernel)) rfl
theorem dX12_why_196 : decode cX12_why 196 = .ok (.iconst 1, 1) := dk_4 (dkn dmcX12_why (by decide +kernel))
theorem dX12_why_197 : decode cX12_why 197 = .ok (.goto 38, 3) := dk_167 (a := 0) (b := 38) (dkn dmcX12_why (by decide +kernel)) rfl
theorem dX12_why_200 : decode cX12_why 200 = .ok (.aload_n 0, 1) := dk_42 (dkn dmcX12_why (by decide +kernel))
theorem dX12_why_201 : decode cX12_why 201 = .ok (.getfield 40, 3) := dk_180 (a := 0) (b := 40) (dkn dmcX12_why (by decide +kernel)) rfl
theorem dX12_why_204 : decode cX12_why 204 = .ok (.iload 5, 2) := dk_21 (dkn dmcX12_why (by decide +kernel))
theorem dX12_why_206 : decode cX12_why 206 = .ok (.iaload, 1) := dk_46 (dkn dmcX12_why (by decide +kernel))
theorem dX12_why_207 : decode cX12_why 207 = .ok (.i2l, 1) := dk_133 (dkn dmcX12_why (by decide +kernel))
theorem dX12_why_208 : decode cX12_why 208 = .ok (.lconst 0, 1) := dk_9 (dkn dmcX12_why (by decide +kernel))
theorem dX12_why_209 : decode cX12_why 209 = .ok (.aload_n 0, 1) := dk_42 (dkn dmcX12_why (by decide +kernel))
theorem dX12_why_210 : decode cX12_why 210 = .ok (.getfield 62, 3) := dk_180 (a := 0) (b := 62) (dkn dmcX12_why (by decide +kernel)) rfl
theorem dX12_why_213 : decode cX12_why 213 = .ok (.aload_n 0, 1) := dk_42 (dkn dmcX12_why (by decide +kernel))
theorem dX12_why_214 : decode cX12_why 214 = .ok (.getfield 40, 3) := dk_180 (a := 0) (b := 40) (dkn dmcX12_why (by decide +kernel)) rfl
theorem dX12_why_217 : decode cX12_why 217 = .ok (.iload 4, 2) := dk_21 (dkn dmcX12_why (by decide +kernel))
theorem dX12_why_219 : decode cX12_why 219 = .ok (.iaload, 1) := dk_46 (dkn dmcX12_why (by decide +kernel))
theorem dX12_why_220 : decode cX12_why 220 = .ok (.iaload, 1) := dk_46 (dkn dmcX12_why (by decide +kernel))
theorem dX12_why_221 : decode cX12_why 221 = .ok (.iconst 1, 1) := dk_4 (dkn dmcX12_why (by decide +kernel))
theorem dX12_why_222 : decode cX12_why 222 = .ok (.isub, 1) := dk_100 (dkn dmcX12_why (by decide +kernel))
theorem dX12_why_223 : decode cX12_why 223 = .ok (.i2l, 1) := dk_133 (dkn dmcX12_why (by decide +kernel))
theorem dX12_why_224 : decode cX12_why 224 = .ok (.invokestatic 169, 3) := dk_184 (a := 0) (b := 169) (dkn dmcX12_why (by decide +kernel)) rfl
theorem dX12_why_227 : decode cX12_why 227 = .ok (.ifCond .ne 7, 3) := dk_154 (a := 0) (b := 7) (dkn dmcX12_why (by decide +kernel)) rfl
theorem dX12_why_230 : decode cX12_why 230 = .ok (.iconst 4, 1) := dk_7 (dkn dmcX12_why (by decide +kernel))
theorem dX12_why_231 : decode cX12_why 231 = .ok (.goto 4, 3) := dk_167 (a := 0) (b := 4) (dkn dmcX12_why (by decide +kernel)) rfl
theorem dX12_why_234 : decode cX12_why 234 = .ok (.iconst 0, 1) := dk_3 (dkn dmcX12_why (by decide +kernel))
theorem dX12_why_235 : decode cX12_why 235 = .ok (.ireturn, 1) := dk_172 (dkn dmcX12_why (by decide +kernel))
theorem dX12_why_236 : decode cX12_why 236 = .ok (.aload_n 0, 1) := dk_42 (dkn dmcX12_why (by decide +kernel))
theorem dX12_why_237 : decode cX12_why 237 = .ok (.getfield 37, 3) := dk_180 (a := 0) (b := 37) (dkn dmcX12_why (by decide +kernel)) rfl
theorem dX12_why_240 : decode cX12_why 240 = .ok (.iload_n 3, 1) := dk_29 (dkn dmcX12_why (by decide +kernel))
theorem dX12_why_241 : decode cX12_why 241 = .ok (.iaload, 1) := dk_46 (dkn dmcX12_why (by decide +kernel))
theorem dX12_why_242 : decode cX12_why 242 = .ok (.iconst 1, 1) := dk_4 (dkn dmcX12_why (by decide +kernel))
theorem dX12_why_243 : decode cX12_why 243 = .ok (.if_icmp .ne 23, 3) := dk_160 (a := 0) (b := 23) (dkn dmcX12_why (by decide +kernel)) rfl
theorem dX12_why_246 : decode cX12_why 246 = .ok (.aload_n 0, 1) := dk_42 (dkn dmcX12_why (by decide +kernel))
theorem dX12_why_247 : decode cX12_why 247 = .ok (.getfield 37, 3) := dk_180 (a := 0) (b := 37) (dkn dmcX12_why (by decide +kernel)) rfl
theorem dX12_why_250 : decode cX12_why 250 = .ok (.iload 4, 2) := dk_21 (dkn dmcX12_why (by decide +kernel))
theorem dX12_why_252 : decode cX12_why 252 = .ok (.iaload, 1) := dk_46 (dkn dmcX12_why (by decide +kernel))
theorem dX12_why_253 : decode cX12_why 253 = .ok (.ifCond .ne 13, 3) := dk_154 (a := 0) (b := 13) (dkn dmcX12_why (by decide +kernel)) rfl
theorem dX12_why_256 : decode cX12_why 256 = .ok (.aload_n 0, 1) := dk_42 (dkn dmcX12_why (by decide +kernel))
theorem dX12_why_257 : decode cX12_why 257 = .ok (.getfield 37, 3) := dk_180 (a := 0) (b := 37) (dkn dmcX12_why (by decide +kernel)) rfl
theorem dX12_why_260 : decode cX12_why 260 = .ok (.iload 5, 2) := dk_21 (dkn dmcX12_why (by decide +kernel))
theorem dX12_why_262 : decode cX12_why 262 = .ok (.iaload, 1) := dk_46 (dkn dmcX12_why (by decide +kernel))
theorem dX12_why_263 : decode cX12_why 263 = .ok (.ifCond .eq 7, 3) := dk_153 (a := 0) (b := 7) (dkn dmcX12_why (by decide +kernel)) rfl
theorem dX12_why_266 : decode cX12_why 266 = .ok (.iconst 1, 1) := dk_4 (dkn dmcX12_why (by decide +kernel))
theorem dX12_why_267 : decode cX12_why 267 = .ok (.goto 37, 3) := dk_167 (a := 0) (b := 37) (dkn dmcX12_why (by decide +kernel)) rfl
theorem dX12_why_270 : decode cX12_why 270 = .ok (.aload_n 0, 1) := dk_42 (dkn dmcX12_why (by decide +kernel))
theorem dX12_why_271 : decode cX12_why 271 = .ok (.getfield 40, 3) := dk_180 (a := 0) (b := 40) (dkn dmcX12_why (by decide +kernel)) rfl
theorem dX12_why_274 : decode cX12_why 274 = .ok (.iload 4, 2) := dk_21 (dkn dmcX12_why (by decide +kernel))
theorem dX12_why_276 : decode cX12_why 276 = .ok (.iaload, 1) := dk_46 (dkn dmcX12_why (by decide +kernel))
theorem dX12_why_277 : decode cX12_why 277 = .ok (.i2l, 1) := dk_133 (dkn dmcX12_why (by decide +kernel))
theorem dX12_why_278 : decode cX12_why 278 = .ok (.lconst 0, 1) := dk_9 (dkn dmcX12_why (by decide +kernel))
theorem dX12_why_279 : decode cX12_why 279 = .ok (.aload_n 0, 1) := dk_42 (dkn dmcX12_why (by decide +kernel))
theorem dX12_why_280 : decode cX12_why 280 = .ok (.getfield 62, 3) := dk_180 (a := 0) (b := 62) (dkn dmcX12_why (by decide +kernel)) rfl
theorem dX12_why_283 : decode cX12_why 283 = .ok (.aload_n 0, 1) := dk_42 (dkn dmcX12_why (by decide +kernel))
theorem dX12_why_284 : decode cX12_why 284 = .ok (.getfield 40, 3) := dk_180 (a := 0) (b := 40) (dkn dmcX12_why (by decide +kernel)) rfl
theorem dX12_why_287 : decode cX12_why 287 = .ok (.iload_n 3, 1) := dk_29 (dkn dmcX12_why (by decide +kernel))
theorem dX12_why_288 : decode cX12_why 288 = .ok (.iaload, 1) := dk_46 (dkn dmcX12_why (by decide +kernel))
theorem dX12_why_289 : decode cX12_why 289 = .ok (.iaload, 1) := dk_46 (dkn dmcX12_why (by decide +kernel))
theorem dX12_why_290 : decode cX12_why 290 = .ok (.iconst 1, 1) := dk_4 (dkn dmcX12_why (by decide +kernel))
theorem dX12_why_291 : decode cX12_why 291 = .ok (.isub, 1) := dk_100 (dkn dmcX12_why (by decide +kernel))
theorem dX12_why_292 : decode cX12_why 292 = .ok (.i2l, 1) := dk_133 (dkn dmcX12_why (by decide +kernel))
theorem dX12_why_293 : decode cX12_why 293 = .ok (.invokestatic 169, 3) := dk_184 (a := 0) (b := 169) (dkn dmcX12_why (by decide +kernel)) rfl
theorem dX12_why_296 : decode cX12_why 296 = .ok (.ifCond .ne 7, 3) := dk_154 (a := 0) (b := 7) (dkn dmcX12_why (by decide +kernel)) rfl
theorem dX12_why_299 : decode cX12_why 299 = .ok (.iconst 4, 1) := dk_7 (dkn dmcX12_why (by decide +kernel))
theorem dX12_why_300 : decode cX12_why 300 = .ok (.goto 4, 3) := dk_167 (a := 0) (b := 4) (dkn dmcX12_why (by decide +kernel)) rfl
theorem dX12_why_303 : decode cX12_why 303 = .ok (.iconst 0, 1) := dk_3 (dkn dmcX12_why (by decide +kernel))
theorem dX12_why_304 : decode cX12_why 304 = .ok (.ireturn, 1) := dk_172 (dkn dmcX12_why (by decide +kernel))
theorem dX12_why_305 : decode cX12_why 305 = .ok (.aload_n 0, 1) := dk_42 (dkn dmcX12_why (by decide +kernel))
theorem dX12_why_306 : decode cX12_why 306 = .ok (.getfield 185, 3) := dk_180 (a := 0) (b := 185) (dkn dmcX12_why (by decide +kernel)) rfl
theorem dX12_why_309 : decode cX12_why 309 = .ok (.bipush 12, 2) := dk_16 (a := 12) (dkn dmcX12_why (by decide +kernel)) rfl
theorem dX12_why_311 : decode cX12_why 311 = .ok (.if_icmp .ne 7, 3) := dk_160 (a := 0) (b := 7) (dkn dmcX12_why (by decide +kernel)) rfl
theorem dX12_why_314 : decode cX12_why 314 = .ok (.iconst 3, 1) := dk_6 (dkn dmcX12_why (by decide +kernel))
theorem dX12_why_315 : decode cX12_why 315 = .ok (.goto 4, 3) := dk_167 (a := 0) (b := 4) (dkn dmcX12_why (by decide +kernel)) rfl
theorem dX12_why_318 : decode cX12_why 318 = .ok (.iconst 0, 1) := dk_3 (dkn dmcX12_why (by decide +kernel))
theorem dX12_why_319 : decode cX12_why 319 = .ok (.ireturn, 1) := dk_172 (dkn dmcX12_why (by decide +kernel))
theorem dX12_why_320 : decode cX12_why 320 = .ok (.aload_n 0, 1) := dk_42 (dkn dmcX12_why (by decide +kernel))
theorem dX12_why_321 : decode cX12_why 321 = .ok (.iload_n 3, 1) := dk_29 (dkn dmcX12_why (by decide +kernel))
theorem dX12_why_322 : decode cX12_why 322 = .ok (.invokevirtual 211, 3) := dk_182 (a := 0) (b := 211) (dkn dmcX12_why (by decide +kernel)) rfl
theorem dX12_why_325 : decode cX12_why 325 = .ok (.ifCond .ne 7, 3) := dk_154 (a := 0) (b := 7) (dkn dmcX12_why (by decide +kernel)) rfl
theorem dX12_why_328 : decode cX12_why 328 = .ok (.iconst 1, 1) := dk_4 (dkn dmcX12_why (by decide +kernel))
theorem dX12_why_329 : decode cX12_why 329 = .ok (.goto 23, 3) := dk_167 (a := 0) (b := 23) (dkn dmcX12_why (by decide +kernel)) rfl
theorem dX12_why_332 : decode cX12_why 332 = .ok (.aload_n 0, 1) := dk_42 (dkn dmcX12_why (by decide +kernel))
theorem dX12_why_333 : decode cX12_why 333 = .ok (.getfield 59, 3) := dk_180 (a := 0) (b := 59) (dkn dmcX12_why (by decide +kernel)) rfl
theorem dX12_why_336 : decode cX12_why 336 = .ok (.aload_n 0, 1) := dk_42 (dkn dmcX12_why (by decide +kernel))
theorem dX12_why_337 : decode cX12_why 337 = .ok (.getfield 40, 3) := dk_180 (a := 0) (b := 40) (dkn dmcX12_why (by decide +kernel)) rfl
theorem dX12_why_340 : decode cX12_why 340 = .ok (.iload_n 3, 1) := dk_29 (dkn dmcX12_why (by decide +kernel))
theorem dX12_why_341 : decode cX12_why 341 = .ok (.iaload, 1) := dk_46 (dkn dmcX12_why (by decide +kernel))
theorem dX12_why_342 : decode cX12_why 342 = .ok (.iaload, 1) := dk_46 (dkn dmcX12_why (by decide +kernel))
theorem dX12_why_343 : decode cX12_why 343 = .ok (.iload_n 1, 1) := dk_27 (dkn dmcX12_why (by decide +kernel))
theorem dX12_why_344 : decode cX12_why 344 = .ok (.if_icmp .ne 7, 3) := dk_160 (a := 0) (b := 7) (dkn dmcX12_why (by decide +kernel)) rfl
theorem dX12_why_347 : decode cX12_why 347 = .ok (.iconst 5, 1) := dk_8 (dkn dmcX12_why (by decide +kernel))
theorem dX12_why_348 : decode cX12_why 348 = .ok (.goto 4, 3) := dk_167 (a := 0) (b := 4) (dkn dmcX12_why (by decide +kernel)) rfl
theorem dX12_why_351 : decode cX12_why 351 = .ok (.iconst 0, 1) := dk_3 (dkn dmcX12_why (by decide +kernel))
theorem dX12_why_352 : decode cX12_why 352 = .ok (.ireturn, 1) := dk_172 (dkn dmcX12_why (by decide +kernel))
theorem dX12_why_353 : decode cX12_why 353 = .ok (.aload_n 0, 1) := dk_42 (dkn dmcX12_why (by decide +kernel))
theorem dX12_why_354 : decode cX12_why 354 = .ok (.iload_n 3, 1) := dk_29 (dkn dmcX12_why (by decide +kernel))
theorem dX12_why_355 : decode cX12_why 355 = .ok (.invokevirtual 211, 3) := dk_182 (a := 0) (b := 211) (dkn dmcX12_why (by decide +kernel)) rfl
theorem dX12_why_358 : decode cX12_why 358 = .ok (.ifCond .ne 7, 3) := dk_154 (a := 0) (b := 7) (dkn dmcX12_why (by decide +kernel)) rfl
theorem dX12_why_361 : decode cX12_why 361 = .ok (.iconst 1, 1) := dk_4 (dkn dmcX12_why (by decide +kernel))
theorem dX12_why_362 : decode cX12_why 362 = .ok (.goto 24, 3) := dk_167 (a := 0) (b := 24) (dkn dmcX12_why (by decide +kernel)) rfl
theorem dX12_why_365 : decode cX12_why 365 = .ok (.aload_n 0, 1) := dk_42 (dkn dmcX12_why (by decide +kernel))
theorem dX12_why_366 : decode cX12_why 366 = .ok (.getfield 59, 3) := dk_180 (a := 0) (b := 59) (dkn dmcX12_why (by decide +kernel)) rfl
theorem dX12_why_369 : decode cX12_why 369 = .ok (.aload_n 0, 1) := dk_42 (dkn dmcX12_why (by decide +kernel))
theorem dX12_why_370 : decode cX12_why 370 = .ok (.getfield 40, 3) := dk_180 (a := 0) (b := 40) (dkn dmcX12_why (by decide +kernel)) rfl
theorem dX12_why_373 : decode cX12_why 373 = .ok (.iload_n 3, 1) := dk_29 (dkn dmcX12_why (by decide +kernel))
theorem dX12_why_374 : decode cX12_why 374 = .ok (.iaload, 1) := dk_46 (dkn dmcX12_why (by decide +kernel))
theorem dX12_why_375 : decode cX12_why 375 = .ok (.iaload, 1) := dk_46 (dkn dmcX12_why (by decide +kernel))
theorem dX12_why_376 : decode cX12_why 376 = .ok (.iload_n 1, 1) := dk_27 (dkn dmcX12_why (by decide +kernel))
theorem dX12_why_377 : decode cX12_why 377 = .ok (.if_icmp .eq 8, 3) := dk_159 (a := 0) (b := 8) (dkn dmcX12_why (by decide +kernel)) rfl
theorem dX12_why_380 : decode cX12_why 380 = .ok (.bipush 6, 2) := dk_16 (a := 6) (dkn dmcX12_why (by decide +kernel)) rfl
theorem dX12_why_382 : decode cX12_why 382 = .ok (.goto 4, 3) := dk_167 (a := 0) (b := 4) (dkn dmcX12_why (by decide +kernel)) rfl
theorem dX12_why_385 : decode cX12_why 385 = .ok (.iconst 0, 1) := dk_3 (dkn dmcX12_why (by decide +kernel))
theorem dX12_why_386 : decode cX12_why 386 = .ok (.ireturn, 1) := dk_172 (dkn dmcX12_why (by decide +kernel))
theorem dX12_why_387 : decode cX12_why 387 = .ok (.aload_n 0, 1) := dk_42 (dkn dmcX12_why (by decide +kernel))
theorem dX12_why_388 : decode cX12_why 388 = .ok (.getfield 37, 3) := dk_180 (a := 0) (b := 37) (dkn dmcX12_why (by decide +kernel)) rfl
theorem dX12_why_391 : decode cX12_why 391 = .ok (.iload_n 3, 1) := dk_29 (dkn dmcX12_why (by decide +kernel))
theorem dX12_why_392 : decode cX12_why 392 = .ok (.iaload, 1) := dk_46 (dkn dmcX12_why (by decide +kernel))
theorem dX12_why_393 : decode cX12_why 393 = .ok (.iconst 3, 1) := dk_6 (dkn dmcX12_why (by decide +kernel))
theorem dX12_why_394 : decode cX12_why 394 = .ok (.if_icmp .eq 7, 3) := dk_159 (a := 0) (b := 7) (dkn dmcX12_why (by decide +kernel)) rfl
theorem dX12_why_397 : decode cX12_why 397 = .ok (.iconst 1, 1) := dk_4 (dkn dmcX12_why (by decide +kernel))
theorem dX12_why_398 : decode cX12_why 398 = .ok (.goto 24, 3) := dk_167 (a := 0) (b := 24) (dkn dmcX12_why (by decide +kernel)) rfl
theorem dX12_why_401 : decode cX12_why 401 = .ok (.aload_n 0, 1) := dk_42 (dkn dmcX12_why (by decide +kernel))
theorem dX12_why_402 : decode cX12_why 402 = .ok (.getfield 59, 3) := dk_180 (a := 0) (b := 59) (dkn dmcX12_why (by decide +kernel)) rfl
theorem dX12_why_405 : decode cX12_why 405 = .ok (.aload_n 0, 1) := dk_42 (dkn dmcX12_why (by decide +kernel))
theorem dX12_why_406 : decode cX12_why 406 = .ok (.getfield 40, 3) := dk_180 (a := 0) (b := 40) (dkn dmcX12_why (by decide +kernel)) rfl
theorem dX12_why_409 : decode cX12_why 409 = .ok (.iload_n 3, 1) := dk_29 (dkn dmcX12_why (by decide +kernel))
theorem dX12_why_410 : decode cX12_why 410 = .ok (.iaload, 1) := dk_46 (dkn dmcX12_why (by decide +kernel))
theorem dX12_why_411 : decode cX12_why 411 = .ok (.iaload, 1) := dk_46 (dkn dmcX12_why (by decide +kernel))
theorem dX12_why_412 : decode cX12_why 412 = .ok (.iload_n 1, 1) := dk_27 (dkn dmcX12_why (by decide +kernel))
theorem dX12_why_413 : decode cX12_why 413 = .ok (.if_icmp .eq 8, 3) := dk_159 (a := 0) (b := 8) (dkn dmcX12_why (by decide +kernel)) rfl
theorem dX12_why_416 : decode cX12_why 416 = .ok (.bipush 6, 2) := dk_16 (a := 6) (dkn dmcX12_why (by decide +kernel)) rfl
theorem dX12_why_418 : decode cX12_why 418 = .ok (.goto 4, 3) := dk_167 (a := 0) (b := 4) (dkn dmcX12_why (by decide +kernel)) rfl
theorem dX12_why_421 : decode cX12_why 421 = .ok (.iconst 0, 1) := dk_3 (dkn dmcX12_why (by decide +kernel))
theorem dX12_why_422 : decode cX12_why 422 = .ok (.ireturn, 1) := dk_172 (dkn dmcX12_why (by decide +kernel))
theorem dX12_why_423 : decode cX12_why 423 = .ok (.aload_n 0, 1) := dk_42 (dkn dmcX12_why (by decide +kernel))
theorem dX12_why_424 : decode cX12_why 424 = .ok (.getfield 218, 3) := dk_180 (a := 0) (b := 218) (dkn dmcX12_why (by decide +kernel)) rfl
theorem dX12_why_427 : decode cX12_why 427 = .ok (.ifCond .ne 19, 3) := dk_154 (a := 0) (b := 19) (dkn dmcX12_why (by decide +kernel)) rfl
theorem dX12_why_430 : decode cX12_why 430 = .ok (.aload_n 0, 1) := dk_42 (dkn dmcX12_why (by decide +kernel))
theorem dX12_why_431 : decode cX12_why 431 = .ok (.getfield 188, 3) := dk_180 (a := 0) (b := 188) (dkn dmcX12_why (by decide +kernel)) rfl
theorem dX12_why_434 : decode cX12_why 434 = .ok (.aload_n 0, 1) := dk_42 (dkn dmcX12_why (by decide +kernel))
theorem dX12_why_435 : decode cX12_why 435 = .ok (.getfield 177, 3) := dk_180 (a := 0) (b := 177) (dkn dmcX12_why (by decide +kernel)) rfl
theorem dX12_why_438 : decode cX12_why 438 = .ok (.if_icmp .ne 8, 3) := dk_160 (a := 0) (b := 8) (dkn dmcX12_why (by decide +kernel)) rfl
theorem dX12_why_441 : decode cX12_why 441 = .ok (.bipush 7, 2) := dk_16 (a := 7) (dkn dmcX12_why (by decide +kernel)) rfl
theorem dX12_why_443 : decode cX12_why 443 = .ok (.goto 4, 3) := dk_167 (a := 0) (b := 4) (dkn dmcX12_why (by decide +kernel)) rfl
theorem dX12_why_446 : decode cX12_why 446 = .ok (.iconst 0, 1) := dk_3 (dkn dmcX12_why (by decide +kernel))
theorem dX12_why_447 : decode cX12_why 447 = .ok (.ireturn, 1) := dk_172 (dkn dmcX12_why (by decide +kernel))
theorem dX12_why_448 : decode cX12_why 448 = .ok (.iconst 0, 1) := dk_3 (dkn dmcX12_why (by decide +kernel))
theorem dX12_why_449 : decode cX12_why 449 = .ok (.ireturn, 1) := dk_172 (dkn dmcX12_why (by decide +kernel))
theorem dX12_why_450 : decode cX12_why 450 = .ok (.bipush 10, 2) := dk_16 (a := 10) (dkn dmcX12_why (by decide +kernel)) rfl
theorem dX12_why_452 : decode cX12_why 452 = .ok (.iload 6, 2) := dk_21 (dkn dmcX12_why (by decide +kernel))
theorem dX12_why_454 : decode cX12_why 454 = .ok (.bipush 10, 2) := dk_16 (a := 10) (dkn dmcX12_why (by decide +kernel)) rfl
theorem dX12_why_456 : decode cX12_why 456 = .ok (.invokestatic 204, 3) := dk_184 (a := 0) (b := 204) (dkn dmcX12_why (by decide +kernel)) rfl
theorem dX12_why_459 : decode cX12_why 459 = .ok (.iadd, 1) := dk_96 (dkn dmcX12_why (by decide +kernel))
theorem dX12_why_460 : decode cX12_why 460 = .ok (.ireturn, 1) := dk_172 (dkn dmcX12_why (by decide +kernel))
theorem dX12_why_461 : decode cX12_why 461 = .ok (.iconst 0, 1) := dk_3 (dkn dmcX12_why (by decide +kernel))
theorem dX12_why_462 : decode cX12_why 462 = .ok (.ireturn, 1) := dk_172 (dkn dmcX12_why (by decide +kernel))
def dncX12_work : Nat := 0xb10300a7d1ffa70106844f0206153200b42a4f2e06153200b42a06153500b42a1900a02e1d2800b42a2e06153200b42a2f00a2070615063603ed00b52e1d2800b42a2aea00b5062a4a00a7ed00b52e1d2800b42a2aea00b5052a4f2e1d2800b42a1b3200b42a4f022e1d2800b42a3b00b42a7400a7ed00b52e1d2800b42a2aea00b5052a4f022e1d2800b42a3b00b42a9200a7ed00b52e1d2800b42a2aea00b5042a4f1b2e1d2800b42a3b00b42ab000a74f2e05152800b42a602e04152800b42a682e1d2800b42a10104100b42ae700b5602e04152800b42a60682e1d2800b42a141064102ae800a7dd00b62e602e05152800b42a682e04152800b42a10104100b42a031d2ae400b5602e05152800b42a60682e04152800b42a141064102a2101a7dd00b6e100b62e04152800b42a042a041d2a3601a7dd00b6682e04152800b42a2e1d2800b42a031d2a4d01a7dd00b6642e04152800b42a2e1d2800b42a031d2a6401a7dd00b6602e04152800b42a2e1d2800b42a031d2a740100004a0100002c0100000e010000bb010000d60000009d00000088000000bb010000bb010000710000005a000000430000000f00000003000000bb0100000000aa1c
theorem dmcX12_work : dkc dncX12_work 445 cX12_work.data.toList 0 = true := by decide +kernel
theorem dX12_work_0 : decode cX12_work 0 = .ok (.iload_n 2, 1) := dk_28 (dkn dmcX12_work (by decide +kernel))
theorem dX12_work_1 : decode cX12_work 1 = .ok (.tableswitch 443 3 15 #[67, 90, 113, 443, 443, 136, 157, 214, 443, 270, 300, 330, 372], 67) := by decide +kernel
theorem dX12_work_68 : decode cX12_work 68 = .ok (.aload_n 0, 1) := dk_42 (dkn dmcX12_work (by decide +kernel))
theorem dX12_work_69 : decode cX12_work 69 = .ok (.iload_n 3, 1) := dk_29 (dkn dmcX12_work (by decide +kernel))
theorem dX12_work_70 : decode cX12_work 70 = .ok (.iconst 0, 1) := dk_3 (dkn dmcX12_work (by decide +kernel))
theorem dX12_work_71 : decode cX12_work 71 = .ok (.aload_n 0, 1) := dk_42 (dkn dmcX12_work (by decide +kernel))
theorem dX12_work_72 : decode cX12_work 72 = .ok (.getfield 40, 3) := dk_180 (a := 0) (b := 40) (dkn dmcX12_work (by decide +kernel)) rfl
theorem dX12_work_75 : decode cX12_work 75 = .ok (.iload_n 3, 1) := dk_29 (dkn dmcX12_work (by decide +kernel))
theorem dX12_work_76 : decode cX12_work 76 = .ok (.iaload, 1) := dk_46 (dkn dmcX12_work (by decide +kernel))
theorem dX12_work_77 : decode cX12_work 77 = .ok (.aload_n 0, 1) := dk_42 (dkn dmcX12_work (by decide +kernel))
theorem dX12_work_78 : decode cX12_work 78 = .ok (.getfield 40, 3) := dk_180 (a := 0) (b := 40) (dkn dmcX12_work (by decide +kernel)) rfl
theorem dX12_work_81 : decode cX12_work 81 = .ok (.iload 4, 2) := dk_21 (dkn dmcX12_work (by decide +kernel))
theorem dX12_work_83 : decode cX12_work 83 = .ok (.iaload, 1) := dk_46 (dkn dmcX12_work (by decide +kernel))
theorem dX12_work_84 : decode cX12_work 84 = .ok (.iadd, 1) := dk_96 (dkn dmcX12_work (by decide +kernel))
theorem dX12_work_85 : decode cX12_work 85 = .ok (.invokevirtual 221, 3) := dk_182 (a := 0) (b := 221) (dkn dmcX12_work (by decide +kernel)) rfl
theorem dX12_work_88 : decode cX12_work 88 = .ok (.goto 356, 3) := dk_167 (a := 1) (b := 100) (dkn dmcX12_work (by decide +kernel)) rfl
theorem dX12_work_91 : decode cX12_work 91 = .ok (.aload_n 0, 1) := dk_42 (dkn dmcX12_work (by decide +kernel))
theorem dX12_work_92 : decode cX12_work 92 = .ok (.iload_n 3, 1) := dk_29 (dkn dmcX12_work (by decide +kernel))
theorem dX12_work_93 : decode cX12_work 93 = .ok (.iconst 0, 1) := dk_3 (dkn dmcX12_work (by decide +kernel))
theorem dX12_work_94 : decode cX12_work 94 = .ok (.aload_n 0, 1) := dk_42 (dkn dmcX12_work (by decide +kernel))
theorem dX12_work_95 : decode cX12_work 95 = .ok (.getfield 40, 3) := dk_180 (a := 0) (b := 40) (dkn dmcX12_work (by decide +kernel)) rfl
theorem dX12_work_98 : decode cX12_work 98 = .ok (.iload_n 3, 1) := dk_29 (dkn dmcX12_work (by decide +kernel))
theorem dX12_work_99 : decode cX12_work 99 = .ok (.iaload, 1) := dk_46 (dkn dmcX12_work (by decide +kernel))
theorem dX12_work_100 : decode cX12_work 100 = .ok (.aload_n 0, 1) := dk_42 (dkn dmcX12_work (by decide +kernel))
theorem dX12_work_101 : decode cX12_work 101 = .ok (.getfield 40, 3) := dk_180 (a := 0) (b := 40) (dkn dmcX12_work (by decide +kernel)) rfl
theorem dX12_work_104 : decode cX12_work 104 = .ok (.iload 4, 2) := dk_21 (dkn dmcX12_work (by decide +kernel))
theorem dX12_work_106 : decode cX12_work 106 = .ok (.iaload, 1) := dk_46 (dkn dmcX12_work (by decide +kernel))
theorem dX12_work_107 : decode cX12_work 107 = .ok (.isub, 1) := dk_100 (dkn dmcX12_work (by decide +kernel))
theorem dX12_work_108 : decode cX12_work 108 = .ok (.invokevirtual 221, 3) := dk_182 (a := 0) (b := 221) (dkn dmcX12_work (by decide +kernel)) rfl
theorem dX12_work_111 : decode cX12_work 111 = .ok (.goto 333, 3) := dk_167 (a := 1) (b := 77) (dkn dmcX12_work (by decide +kernel)) rfl
theorem dX12_work_114 : decode cX12_work 114 = .ok (.aload_n 0, 1) := dk_42 (dkn dmcX12_work (by decide +kernel))
theorem dX12_work_115 : decode cX12_work 115 = .ok (.iload_n 3, 1) := dk_29 (dkn dmcX12_work (by decide +kernel))
theorem dX12_work_116 : decode cX12_work 116 = .ok (.iconst 0, 1) := dk_3 (dkn dmcX12_work (by decide +kernel))
theorem dX12_work_117 : decode cX12_work 117 = .ok (.aload_n 0, 1) := dk_42 (dkn dmcX12_work (by decide +kernel))
theorem dX12_work_118 : decode cX12_work 118 = .ok (.getfield 40, 3) := dk_180 (a := 0) (b := 40) (dkn dmcX12_work (by decide +kernel)) rfl
theorem dX12_work_121 : decode cX12_work 121 = .ok (.iload_n 3, 1) := dk_29 (dkn dmcX12_work (by decide +kernel))
theorem dX12_work_122 : decode cX12_work 122 = .ok (.iaload, 1) := dk_46 (dkn dmcX12_work (by decide +kernel))
theorem dX12_work_123 : decode cX12_work 123 = .ok (.aload_n 0, 1) := dk_42 (dkn dmcX12_work (by decide +kernel))
theorem dX12_work_124 : decode cX12_work 124 = .ok (.getfield 40, 3) := dk_180 (a := 0) (b := 40) (dkn dmcX12_work (by decide +kernel)) rfl
theorem dX12_work_127 : decode cX12_work 127 = .ok (.iload 4, 2) := dk_21 (dkn dmcX12_work (by decide +kernel))
theorem dX12_work_129 : decode cX12_work 129 = .ok (.iaload, 1) := dk_46 (dkn dmcX12_work (by decide +kernel))
theorem dX12_work_130 : decode cX12_work 130 = .ok (.imul, 1) := dk_104 (dkn dmcX12_work (by decide +kernel))
theorem dX12_work_131 : decode cX12_work 131 = .ok (.invokevirtual 221, 3) := dk_182 (a := 0) (b := 221) (dkn dmcX12_work (by decide +kernel)) rfl
theorem dX12_work_134 : decode cX12_work 134 = .ok (.goto 310, 3) := dk_167 (a := 1) (b := 54) (dkn dmcX12_work (by decide +kernel)) rfl
theorem dX12_work_137 : decode cX12_work 137 = .ok (.aload_n 0, 1) := dk_42 (dkn dmcX12_work (by decide +kernel))
theorem dX12_work_138 : decode cX12_work 138 = .ok (.iload_n 3, 1) := dk_29 (dkn dmcX12_work (by decide +kernel))
theorem dX12_work_139 : decode cX12_work 139 = .ok (.iconst 1, 1) := dk_4 (dkn dmcX12_work (by decide +kernel))
theorem dX12_work_140 : decode cX12_work 140 = .ok (.aload_n 0, 1) := dk_42 (dkn dmcX12_work (by decide +kernel))
theorem dX12_work_141 : decode cX12_work 141 = .ok (.iconst 1, 1) := dk_4 (dkn dmcX12_work (by decide +kernel))
theorem dX12_work_142 : decode cX12_work 142 = .ok (.aload_n 0, 1) := dk_42 (dkn dmcX12_work (by decide +kernel))
theorem dX12_work_143 : decode cX12_work 143 = .ok (.getfield 40, 3) := dk_180 (a := 0) (b := 40) (dkn dmcX12_work (by decide +kernel)) rfl
theorem dX12_work_146 : decode cX12_work 146 = .ok (.iload 4, 2) := dk_21 (dkn dmcX12_work (by decide +kernel))
theorem dX12_work_148 : decode cX12_work 148 = .ok (.iaload, 1) := dk_46 (dkn dmcX12_work (by decide +kernel))
theorem dX12_work_149 : decode cX12_work 149 = .ok (.invokevirtual 225, 3) := dk_182 (a := 0) (b := 225) (dkn dmcX12_work (by decide +kernel)) rfl
theorem dX12_work_152 : decode cX12_work 152 = .ok (.invokevirtual 221, 3) := dk_182 (a := 0) (b := 221) (dkn dmcX12_work (by decide +kernel)) rfl
theorem dX12_work_155 : decode cX12_work 155 = .ok (.goto 289, 3) := dk_167 (a := 1) (b := 33) (dkn dmcX12_work (by decide +kernel)) rfl
theorem dX12_work_158 : decode cX12_work 158 = .ok (.aload_n 0, 1) := dk_42 (dkn dmcX12_work (by decide +kernel))
theorem dX12_work_159 : decode cX12_work 159 = .ok (.bipush 100, 2) := dk_16 (a := 100) (dkn dmcX12_work (by decide +kernel)) rfl
theorem dX12_work_161 : decode cX12_work 161 = .ok (.bipush 20, 2) := dk_16 (a := 20) (dkn dmcX12_work (by decide +kernel)) rfl
theorem dX12_work_163 : decode cX12_work 163 = .ok (.aload_n 0, 1) := dk_42 (dkn dmcX12_work (by decide +kernel))
theorem dX12_work_164 : decode cX12_work 164 = .ok (.getfield 40, 3) := dk_180 (a := 0) (b := 40) (dkn dmcX12_work (by decide +kernel)) rfl
theorem dX12_work_167 : decode cX12_work 167 = .ok (.iload 4, 2) := dk_21 (dkn dmcX12_work (by decide +kernel))
theorem dX12_work_169 : decode cX12_work 169 = .ok (.iaload, 1) := dk_46 (dkn dmcX12_work (by decide +kernel))
theorem dX12_work_170 : decode cX12_work 170 = .ok (.imul, 1) := dk_104 (dkn dmcX12_work (by decide +kernel))
theorem dX12_work_171 : decode cX12_work 171 = .ok (.iadd, 1) := dk_96 (dkn dmcX12_work (by decide +kernel))
theorem dX12_work_172 : decode cX12_work 172 = .ok (.aload_n 0, 1) := dk_42 (dkn dmcX12_work (by decide +kernel))
theorem dX12_work_173 : decode cX12_work 173 = .ok (.getfield 40, 3) := dk_180 (a := 0) (b := 40) (dkn dmcX12_work (by decide +kernel)) rfl
theorem dX12_work_176 : decode cX12_work 176 = .ok (.iload 5, 2) := dk_21 (dkn dmcX12_work (by decide +kernel))
theorem dX12_work_178 : decode cX12_work 178 = .ok (.iaload, 1) := dk_46 (dkn dmcX12_work (by decide +kernel))
theorem dX12_work_179 : decode cX12_work 179 = .ok (.iadd, 1) := dk_96 (dkn dmcX12_work (by decide +kernel))
theorem dX12_work_180 : decode cX12_work 180 = .ok (.putfield 228, 3) := dk_181 (a := 0) (b := 228) (dkn dmcX12_work (by decide +kernel)) rfl
theorem dX12_work_183 : decode cX12_work 183 = .ok (.aload_n 0, 1) := dk_42 (dkn dmcX12_work (by decide +kernel))
theorem dX12_work_184 : decode cX12_work 184 = .ok (.iload_n 3, 1) := dk_29 (dkn dmcX12_work (by decide +kernel))
theorem dX12_work_185 : decode cX12_work 185 = .ok (.iconst 0, 1) := dk_3 (dkn dmcX12_work (by decide +kernel))
theorem dX12_work_186 : decode cX12_work 186 = .ok (.aload_n 0, 1) := dk_42 (dkn dmcX12_work (by decide +kernel))
theorem dX12_work_187 : decode cX12_work 187 = .ok (.getfield 65, 3) := dk_180 (a := 0) (b := 65) (dkn dmcX12_work (by decide +kernel)) rfl
theorem dX12_work_190 : decode cX12_work 190 = .ok (.bipush 16, 2) := dk_16 (a := 16) (dkn dmcX12_work (by decide +kernel)) rfl
theorem dX12_work_192 : decode cX12_work 192 = .ok (.aload_n 0, 1) := dk_42 (dkn dmcX12_work (by decide +kernel))
theorem dX12_work_193 : decode cX12_work 193 = .ok (.getfield 40, 3) := dk_180 (a := 0) (b := 40) (dkn dmcX12_work (by decide +kernel)) rfl
theorem dX12_work_196 : decode cX12_work 196 = .ok (.iload 4, 2) := dk_21 (dkn dmcX12_work (by decide +kernel))
theorem dX12_work_198 : decode cX12_work 198 = .ok (.iaload, 1) := dk_46 (dkn dmcX12_work (by decide +kernel))
theorem dX12_work_199 : decode cX12_work 199 = .ok (.imul, 1) := dk_104 (dkn dmcX12_work (by decide +kernel))
theorem dX12_work_200 : decode cX12_work 200 = .ok (.aload_n 0, 1) := dk_42 (dkn dmcX12_work (by decide +kernel))
theorem dX12_work_201 : decode cX12_work 201 = .ok (.getfield 40, 3) := dk_180 (a := 0) (b := 40) (dkn dmcX12_work (by decide +kernel)) rfl
theorem dX12_work_204 : decode cX12_work 204 = .ok (.iload 5, 2) := dk_21 (dkn dmcX12_work (by decide +kernel))
theorem dX12_work_206 : decode cX12_work 206 = .ok (.iaload, 1) := dk_46 (dkn dmcX12_work (by decide +kernel))
theorem dX12_work_207 : decode cX12_work 207 = .ok (.iadd, 1) := dk_96 (dkn dmcX12_work (by decide +kernel))
theorem dX12_work_208 : decode cX12_work 208 = .ok (.iaload, 1) := dk_46 (dkn dmcX12_work (by decide +kernel))
theorem dX12_work_209 : decode cX12_work 209 = .ok (.invokevirtual 221, 3) := dk_182 (a := 0) (b := 221) (dkn dmcX12_work (by decide +kernel)) rfl
theorem dX12_work_212 : decode cX12_work 212 = .ok (.goto 232, 3) := dk_167 (a := 0) (b := 232) (dkn dmcX12_work (by decide +kernel)) rfl
theorem dX12_work_215 : decode cX12_work 215 = .ok (.aload_n 0, 1) := dk_42 (dkn dmcX12_work (by decide +kernel))
theorem dX12_work_216 : decode cX12_work 216 = .ok (.bipush 100, 2) := dk_16 (a := 100) (dkn dmcX12_work (by decide +kernel)) rfl
theorem dX12_work_218 : decode cX12_work 218 = .ok (.bipush 20, 2) := dk_16 (a := 20) (dkn dmcX12_work (by decide +kernel)) rfl
theorem dX12_work_220 : decode cX12_work 220 = .ok (.aload_n 0, 1) := dk_42 (dkn dmcX12_work (by decide +kernel))
theorem dX12_work_221 : decode cX12_work 221 = .ok (.getfield 40, 3) := dk_180 (a := 0) (b := 40) (dkn dmcX12_work (by decide +kernel)) rfl
theorem dX12_work_224 : decode cX12_work 224 = .ok (.iload_n 3, 1) := dk_29 (dkn dmcX12_work (by decide +kernel))
theorem dX12_work_225 : decode cX12_work 225 = .ok (.iaload, 1) := dk_46 (dkn dmcX12_work (by decide +kernel))
theorem dX12_work_226 : decode cX12_work 226 = .ok (.imul, 1) := dk_104 (dkn dmcX12_work (by decide +kernel))
theorem dX12_work_227 : decode cX12_work 227 = .ok (.iadd, 1) := dk_96 (dkn dmcX12_work (by decide +kernel))
theorem dX12_work_228 : decode cX12_work 228 = .ok (.aload_n 0, 1) := dk_42 (dkn dmcX12_work (by decide +kernel))
theorem dX12_work_229 : decode cX12_work 229 = .ok (.getfield 40, 3) := dk_180 (a := 0) (b := 40) (dkn dmcX12_work (by decide +kernel)) rfl
theorem dX12_work_232 : decode cX12_work 232 = .ok (.iload 4, 2) := dk_21 (dkn dmcX12_work (by decide +kernel))
theorem dX12_work_234 : decode cX12_work 234 = .ok (.iaload, 1) := dk_46 (dkn dmcX12_work (by decide +kernel))
theorem dX12_work_235 : decode cX12_work 235 = .ok (.iadd, 1) := dk_96 (dkn dmcX12_work (by decide +kernel))
theorem dX12_work_236 : decode cX12_work 236 = .ok (.putfield 231, 3) := dk_181 (a := 0) (b := 231) (dkn dmcX12_work (by decide +kernel)) rfl
theorem dX12_work_239 : decode cX12_work 239 = .ok (.aload_n 0, 1) := dk_42 (dkn dmcX12_work (by decide +kernel))
theorem dX12_work_240 : decode cX12_work 240 = .ok (.getfield 65, 3) := dk_180 (a := 0) (b := 65) (dkn dmcX12_work (by decide +kernel)) rfl
theorem dX12_work_243 : decode cX12_work 243 = .ok (.bipush 16, 2) := dk_16 (a := 16) (dkn dmcX12_work (by decide +kernel)) rfl
theorem dX12_work_245 : decode cX12_work 245 = .ok (.aload_n 0, 1) := dk_42 (dkn dmcX12_work (by decide +kernel))
theorem dX12_work_246 : decode cX12_work 246 = .ok (.getfield 40, 3) := dk_180 (a := 0) (b := 40) (dkn dmcX12_work (by decide +kernel)) rfl
theorem dX12_work_249 : decode cX12_work 249 = .ok (.iload_n 3, 1) := dk_29 (dkn dmcX12_work (by decide +kernel))
theorem dX12_work_250 : decode cX12_work 250 = .ok (.iaload, 1) := dk_46 (dkn dmcX12_work (by decide +kernel))
theorem dX12_work_251 : decode cX12_work 251 = .ok (.imul, 1) := dk_104 (dkn dmcX12_work (by decide +kernel))
theorem dX12_work_252 : decode cX12_work 252 = .ok (.aload_n 0, 1) := dk_42 (dkn dmcX12_work (by decide +kernel))
theorem dX12_work_253 : decode cX12_work 253 = .ok (.getfield 40, 3) := dk_180 (a := 0) (b := 40) (dkn dmcX12_work (by decide +kernel)) rfl
theorem dX12_work_256 : decode cX12_work 256 = .ok (.iload 4, 2) := dk_21 (dkn dmcX12_work (by decide +kernel))
theorem dX12_work_258 : decode cX12_work 258 = .ok (.iaload, 1) := dk_46 (dkn dmcX12_work (by decide +kernel))
theorem dX12_work_259 : decode cX12_work 259 = .ok (.iadd, 1) := dk_96 (dkn dmcX12_work (by decide +kernel))
theorem dX12_work_260 : decode cX12_work 260 = .ok (.aload_n 0, 1) := dk_42 (dkn dmcX12_work (by decide +kernel))
theorem dX12_work_261 : decode cX12_work 261 = .ok (.getfield 40, 3) := dk_180 (a := 0) (b := 40) (dkn dmcX12_work (by decide +kernel)) rfl
theorem dX12_work_264 : decode cX12_work 264 = .ok (.iload 5, 2) := dk_21 (dkn dmcX12_work (by decide +kernel))
theorem dX12_work_266 : decode cX12_work 266 = .ok (.iaload, 1) := dk_46 (dkn dmcX12_work (by decide +kernel))
theorem dX12_work_267 : decode cX12_work 267 = .ok (.iastore, 1) := dk_79 (dkn dmcX12_work (by decide +kernel))
theorem dX12_work_268 : decode cX12_work 268 = .ok (.goto 176, 3) := dk_167 (a := 0) (b := 176) (dkn dmcX12_work (by decide +kernel)) rfl
theorem dX12_work_271 : decode cX12_work 271 = .ok (.aload_n 0, 1) := dk_42 (dkn dmcX12_work (by decide +kernel))
theorem dX12_work_272 : decode cX12_work 272 = .ok (.getfield 59, 3) := dk_180 (a := 0) (b := 59) (dkn dmcX12_work (by decide +kernel)) rfl
theorem dX12_work_275 : decode cX12_work 275 = .ok (.aload_n 0, 1) := dk_42 (dkn dmcX12_work (by decide +kernel))
theorem dX12_work_276 : decode cX12_work 276 = .ok (.getfield 40, 3) := dk_180 (a := 0) (b := 40) (dkn dmcX12_work (by decide +kernel)) rfl
theorem dX12_work_279 : decode cX12_work 279 = .ok (.iload_n 3, 1) := dk_29 (dkn dmcX12_work (by decide +kernel))
theorem dX12_work_280 : decode cX12_work 280 = .ok (.iaload, 1) := dk_46 (dkn dmcX12_work (by decide +kernel))
theorem dX12_work_281 : decode cX12_work 281 = .ok (.iload_n 1, 1) := dk_27 (dkn dmcX12_work (by decide +kernel))
theorem dX12_work_282 : decode cX12_work 282 = .ok (.iastore, 1) := dk_79 (dkn dmcX12_work (by decide +kernel))
theorem dX12_work_283 : decode cX12_work 283 = .ok (.aload_n 0, 1) := dk_42 (dkn dmcX12_work (by decide +kernel))
theorem dX12_work_284 : decode cX12_work 284 = .ok (.iconst 1, 1) := dk_4 (dkn dmcX12_work (by decide +kernel))
theorem dX12_work_285 : decode cX12_work 285 = .ok (.putfield 234, 3) := dk_181 (a := 0) (b := 234) (dkn dmcX12_work (by decide +kernel)) rfl
theorem dX12_work_288 : decode cX12_work 288 = .ok (.aload_n 0, 1) := dk_42 (dkn dmcX12_work (by decide +kernel))
theorem dX12_work_289 : decode cX12_work 289 = .ok (.aload_n 0, 1) := dk_42 (dkn dmcX12_work (by decide +kernel))
theorem dX12_work_290 : decode cX12_work 290 = .ok (.getfield 40, 3) := dk_180 (a := 0) (b := 40) (dkn dmcX12_work (by decide +kernel)) rfl
theorem dX12_work_293 : decode cX12_work 293 = .ok (.iload_n 3, 1) := dk_29 (dkn dmcX12_work (by decide +kernel))
theorem dX12_work_294 : decode cX12_work 294 = .ok (.iaload, 1) := dk_46 (dkn dmcX12_work (by decide +kernel))
theorem dX12_work_295 : decode cX12_work 295 = .ok (.putfield 237, 3) := dk_181 (a := 0) (b := 237) (dkn dmcX12_work (by decide +kernel)) rfl
theorem dX12_work_298 : decode cX12_work 298 = .ok (.goto 146, 3) := dk_167 (a := 0) (b := 146) (dkn dmcX12_work (by decide +kernel)) rfl
theorem dX12_work_301 : decode cX12_work 301 = .ok (.aload_n 0, 1) := dk_42 (dkn dmcX12_work (by decide +kernel))
theorem dX12_work_302 : decode cX12_work 302 = .ok (.getfield 59, 3) := dk_180 (a := 0) (b := 59) (dkn dmcX12_work (by decide +kernel)) rfl
theorem dX12_work_305 : decode cX12_work 305 = .ok (.aload_n 0, 1) := dk_42 (dkn dmcX12_work (by decide +kernel))
theorem dX12_work_306 : decode cX12_work 306 = .ok (.getfield 40, 3) := dk_180 (a := 0) (b := 40) (dkn dmcX12_work (by decide +kernel)) rfl
theorem dX12_work_309 : decode cX12_work 309 = .ok (.iload_n 3, 1) := dk_29 (dkn dmcX12_work (by decide +kernel))
theorem dX12_work_310 : decode cX12_work 310 = .ok (.iaload, 1) := dk_46 (dkn dmcX12_work (by decide +kernel))
theorem dX12_work_311 : decode cX12_work 311 = .ok (.iconst (-1), 1) := dk_2 (dkn dmcX12_work (by decide +kernel))
theorem dX12_work_312 : decode cX12_work 312 = .ok (.iastore, 1) := dk_79 (dkn dmcX12_work (by decide +kernel))
theorem dX12_work_313 : decode cX12_work 313 = .ok (.aload_n 0, 1) := dk_42 (dkn dmcX12_work (by decide +kernel))
theorem dX12_work_314 : decode cX12_work 314 = .ok (.iconst 2, 1) := dk_5 (dkn dmcX12_work (by decide +kernel))
theorem dX12_work_315 : decode cX12_work 315 = .ok (.putfield 234, 3) := dk_181 (a := 0) (b := 234) (dkn dmcX12_work (by decide +kernel)) rfl
theorem dX12_work_318 : decode cX12_work 318 = .ok (.aload_n 0, 1) := dk_42 (dkn dmcX12_work (by decide +kernel))
theorem dX12_work_319 : decode cX12_work 319 = .ok (.aload_n 0, 1) := dk_42 (dkn dmcX12_work (by decide +kernel))
theorem dX12_work_320 : decode cX12_work 320 = .ok (.getfield 40, 3) := dk_180 (a := 0) (b := 40) (dkn dmcX12_work (by decide +kernel)) rfl
theorem dX12_work_323 : decode cX12_work 323 = .ok (.iload_n 3, 1) := dk_29 (dkn dmcX12_work (by decide +kernel))
theorem dX12_work_324 : decode cX12_work 324 = .ok (.iaload, 1) := dk_46 (dkn dmcX12_work (by decide +kernel))
theorem dX12_work_325 : decode cX12_work 325 = .ok (.putfield 237, 3) := dk_181 (a := 0) (b := 237) (dkn dmcX12_work (by decide +kernel)) rfl
theorem dX12_work_328 : decode cX12_work 328 = .ok (.goto 116, 3) := dk_167 (a := 0) (b := 116) (dkn dmcX12_work (by decide +kernel)) rfl
theorem dX12_work_331 : decode cX12_work 331 = .ok (.aload_n 0, 1) := dk_42 (dkn dmcX12_work (by decide +kernel))
theorem dX12_work_332 : decode cX12_work 332 = .ok (.getfield 59, 3) := dk_180 (a := 0) (b := 59) (dkn dmcX12_work (by decide +kernel)) rfl
theorem dX12_work_335 : decode cX12_work 335 = .ok (.aload_n 0, 1) := dk_42 (dkn dmcX12_work (by decide +kernel))
theorem dX12_work_336 : decode cX12_work 336 = .ok (.getfield 40, 3) := dk_180 (a := 0) (b := 40) (dkn dmcX12_work (by decide +kernel)) rfl
theorem dX12_work_339 : decode cX12_work 339 = .ok (.iload_n 3, 1) := dk_29 (dkn dmcX12_work (by decide +kernel))
theorem dX12_work_340 : decode cX12_work 340 = .ok (.iaload, 1) := dk_46 (dkn dmcX12_work (by decide +kernel))
theorem dX12_work_341 : decode cX12_work 341 = .ok (.iconst (-1), 1) := dk_2 (dkn dmcX12_work (by decide +kernel))
theorem dX12_work_342 : decode cX12_work 342 = .ok (.iastore, 1) := dk_79 (dkn dmcX12_work (by decide +kernel))
theorem dX12_work_343 : decode cX12_work 343 = .ok (.aload_n 0, 1) := dk_42 (dkn dmcX12_work (by decide +kernel))
theorem dX12_work_344 : decode cX12_work 344 = .ok (.getfield 50, 3) := dk_180 (a := 0) (b := 50) (dkn dmcX12_work (by decide +kernel)) rfl
theorem dX12_work_347 : decode cX12_work 347 = .ok (.iload_n 1, 1) := dk_27 (dkn dmcX12_work (by decide +kernel))
theorem dX12_work_348 : decode cX12_work 348 = .ok (.aload_n 0, 1) := dk_42 (dkn dmcX12_work (by decide +kernel))
theorem dX12_work_349 : decode cX12_work 349 = .ok (.getfield 40, 3) := dk_180 (a := 0) (b := 40) (dkn dmcX12_work (by decide +kernel)) rfl
theorem dX12_work_352 : decode cX12_work 352 = .ok (.iload_n 3, 1) := dk_29 (dkn dmcX12_work (by decide +kernel))
theorem dX12_work_353 : decode cX12_work 353 = .ok (.iaload, 1) := dk_46 (dkn dmcX12_work (by decide +kernel))
theorem dX12_work_354 : decode cX12_work 354 = .ok (.iastore, 1) := dk_79 (dkn dmcX12_work (by decide +kernel))
theorem dX12_work_355 : decode cX12_work 355 = .ok (.aload_n 0, 1) := dk_42 (dkn dmcX12_work (by decide +kernel))
theorem dX12_work_356 : decode cX12_work 356 = .ok (.iconst 2, 1) := dk_5 (dkn dmcX12_work (by decide +kernel))
theorem dX12_work_357 : decode cX12_work 357 = .ok (.putfield 234, 3) := dk_181 (a := 0) (b := 234) (dkn dmcX12_work (by decide +kernel)) rfl
theorem dX12_work_360 : decode cX12_work 360 = .ok (.aload_n 0, 1) := dk_42 (dkn dmcX12_work (by decide +kernel))
theorem dX12_work_361 : decode cX12_work 361 = .ok (.aload_n 0, 1) := dk_42 (dkn dmcX12_work (by decide +kernel))
theorem dX12_work_362 : decode cX12_work 362 = .ok (.getfield 40, 3) := dk_180 (a := 0) (b := 40) (dkn dmcX12_work (by decide +kernel)) rfl
theorem dX12_work_365 : decode cX12_work 365 = .ok (.iload_n 3, 1) := dk_29 (dkn dmcX12_work (by decide +kernel))
theorem dX12_work_366 : decode cX12_work 366 = .ok (.iaload, 1) := dk_46 (dkn dmcX12_work (by decide +kernel))
theorem dX12_work_367 : decode cX12_work 367 = .ok (.putfield 237, 3) := dk_181 (a := 0) (b := 237) (dkn dmcX12_work (by decide +kernel)) rfl
theorem dX12_work_370 : decode cX12_work 370 = .ok (.goto 74, 3) := dk_167 (a := 0) (b := 74) (dkn dmcX12_work (by decide +kernel)) rfl
theorem dX12_work_373 : decode cX12_work 373 = .ok (.aload_n 0, 1) := dk_42 (dkn dmcX12_work (by decide +kernel))
theorem dX12_work_374 : decode cX12_work 374 = .ok (.iconst 3, 1) := dk_6 (dkn dmcX12_work (by decide +kernel))
theorem dX12_work_375 : decode cX12_work 375 = .ok (.putfield 234, 3) := dk_181 (a := 0) (b := 234) (dkn dmcX12_work (by decide +kernel)) rfl
theorem dX12_work_378 : decode cX12_work 378 = .ok (.aload_n 0, 1) := dk_42 (dkn dmcX12_work (by decide +kernel))
theorem dX12_work_379 : decode cX12_work 379 = .ok (.aload_n 0, 1) := dk_42 (dkn dmcX12_work (by decide +kernel))
theorem dX12_work_380 : decode cX12_work 380 = .ok (.getfield 40, 3) := dk_180 (a := 0) (b := 40) (dkn dmcX12_work (by decide +kernel)) rfl
theorem dX12_work_383 : decode cX12_work 383 = .ok (.iload_n 3, 1) := dk_29 (dkn dmcX12_work (by decide +kernel))
theorem dX12_work_384 : decode cX12_work 384 = .ok (.iaload, 1) := dk_46 (dkn dmcX12_work (by decide +kernel))
theorem dX12_work_385 : decode cX12_work 385 = .ok (.putfield 237, 3) := dk_181 (a := 0) (b := 237) (dkn dmcX12_work (by decide +kernel)) rfl
theorem dX12_work_388 : decode cX12_work 388 = .ok (.iconst 0, 1) := dk_3 (dkn dmcX12_work (by decide +kernel))
theorem dX12_work_389 : decode cX12_work 389 = .ok (.istore 6, 2) := dk_54 (dkn dmcX12_work (by decide +kernel))
theorem dX12_work_391 : decode cX12_work 391 = .ok (.iload 6, 2) := dk_21 (dkn dmcX12_work (by decide +kernel))
theorem dX12_work_393 : decode cX12_work 393 = .ok (.iconst 4, 1) := dk_7 (dkn dmcX12_work (by decide +kernel))
theorem dX12_work_394 : decode cX12_work 394 = .ok (.if_icmp .ge 47, 3) := dk_162 (a := 0) (b := 47) (dkn dmcX12_work (by decide +kernel)) rfl
theorem dX12_work_397 : decode cX12_work 397 = .ok (.aload_n 0, 1) := dk_42 (dkn dmcX12_work (by decide +kernel))
theorem dX12_work_398 : decode cX12_work 398 = .ok (.getfield 50, 3) := dk_180 (a := 0) (b := 50) (dkn dmcX12_work (by decide +kernel)) rfl
theorem dX12_work_401 : decode cX12_work 401 = .ok (.iload 6, 2) := dk_21 (dkn dmcX12_work (by decide +kernel))
theorem dX12_work_403 : decode cX12_work 403 = .ok (.iaload, 1) := dk_46 (dkn dmcX12_work (by decide +kernel))
theorem dX12_work_404 : decode cX12_work 404 = .ok (.aload_n 0, 1) := dk_42 (dkn dmcX12_work (by decide +kernel))
theorem dX12_work_405 : decode cX12_work 405 = .ok (.getfield 40, 3) := dk_180 (a := 0) (b := 40) (dkn dmcX12_work (by decide +kernel)) rfl
theorem dX12_work_408 : decode cX12_work 408 = .ok (.iload_n 3, 1) := dk_29 (dkn dmcX12_work (by decide +kernel))
theorem dX12_work_409 : decode cX12_work 409 = .ok (.iaload, 1) := dk_46 (dkn dmcX12_work (by decide +kernel))
theorem dX12_work_410 : decode cX12_work 410 = .ok (.if_icmp .ne 25, 3) := dk_160 (a := 0) (b := 25) (dkn dmcX12_work (by decide +kernel)) rfl
theorem dX12_work_413 : decode cX12_work 413 = .ok (.aload_n 0, 1) := dk_42 (dkn dmcX12_work (by decide +kernel))
theorem dX12_work_414 : decode cX12_work 414 = .ok (.getfield 53, 3) := dk_180 (a := 0) (b := 53) (dkn dmcX12_work (by decide +kernel)) rfl
theorem dX12_work_417 : decode cX12_work 417 = .ok (.iload 6, 2) := dk_21 (dkn dmcX12_work (by decide +kernel))
theorem dX12_work_419 : decode cX12_work 419 = .ok (.aload_n 0, 1) := dk_42 (dkn dmcX12_work (by decide +kernel))
theorem dX12_work_420 : decode cX12_work 420 = .ok (.getfield 50, 3) := dk_180 (a := 0) (b := 50) (dkn dmcX12_work (by decide +kernel)) rfl
theorem dX12_work_423 : decode cX12_work 423 = .ok (.iload 6, 2) := dk_21 (dkn dmcX12_work (by decide +kernel))
theorem dX12_work_425 : decode cX12_work 425 = .ok (.iaload, 1) := dk_46 (dkn dmcX12_work (by decide +kernel))
theorem dX12_work_426 : decode cX12_work 426 = .ok (.iastore, 1) := dk_79 (dkn dmcX12_work (by decide +kernel))
theorem dX12_work_427 : decode cX12_work 427 = .ok (.aload_n 0, 1) := dk_42 (dkn dmcX12_work (by decide +kernel))
theorem dX12_work_428 : decode cX12_work 428 = .ok (.getfield 50, 3) := dk_180 (a := 0) (b := 50) (dkn dmcX12_work (by decide +kernel)) rfl
theorem dX12_work_431 : decode cX12_work 431 = .ok (.iload 6, 2) := dk_21 (dkn dmcX12_work (by decide +kernel))
theorem dX12_work_433 : decode cX12_work 433 = .ok (.iconst (-1), 1) := dk_2 (dkn dmcX12_work (by decide +kernel))
theorem dX12_work_434 : decode cX12_work 434 = .ok (.iastore, 1) := dk_79 (dkn dmcX12_work (by decide +kernel))
theorem dX12_work_435 : decode cX12_work 435 = .ok (.iinc 6 1, 3) := dk_132 (b := 1) (dkn dmcX12_work (by decide +kernel)) rfl
theorem dX12_work_438 : decode cX12_work 438 = .ok (.goto (-47), 3) := dk_167 (a := 255) (b := 209) (dkn dmcX12_work (by decide +kernel)) rfl
theorem dX12_work_441 : decode cX12_work 441 = .ok (.goto 3, 3) := dk_167 (a := 0) (b := 3) (dkn dmcX12_work (by decide +kernel)) rfl
theorem dX12_work_444 : decode cX12_work 444 = .ok (.return_, 1) := dk_177 (dkn dmcX12_work (by decide +kernel))
def dncX12_workPlain : Nat := 0xb10300a7ed00b5cc00b80705152aea00b5072a5404cc00b80705152e00b42a2100a7bc00b56004bc00b4592add00b62ebc00b42a1c00b42a0c00a72ebc00b42a7500b42a0f0099da00b42a031d2a5000a7dd00b6e100b60307152a07151d2a0736060400a70507009a700506156f00a7dd00b62e04152800b42a2e04152500b42a07152ae700b507152a0736cc00b80c1005159500a7dd00b62e07152800b42a2e07152500b42a1d2ae400b507152a0736cc00b80c100615ba00a7dd00b60615031d2afa000000cb00000018010000180100001801000018010000ac000000180100001801000018010000180100001801000018010000180100001801000086000000610000005600000011000000000000001801000000aa2e1c0d00b42a06362e1c1300b42a05362e1c1000b42a
theorem dmcX12_workPlain : dkc dncX12_workPlain 303 cX12_workPlain.data.toList 0 = true := by decide +kernel
theorem dX12_workPlain_0 : decode cX12_workPlain 0 = .ok (.aload_n 0, 1) := dk_42 (dkn dmcX12_workPlain (by decide +kernel))
theorem dX12_workPlain_1 : decode cX12_workPlain 1 = .ok (.getfield 16, 3) := dk_180 (a := 0) (b := 16) (dkn dmcX12_workPlain (by decide +kernel)) rfl
theorem dX12_workPlain_4 : decode cX12_workPlain 4 = .ok (.iload_n 2, 1) := dk_28 (dkn dmcX12_workPlain (by decide +kernel))
theorem dX12_workPlain_5 : decode cX12_workPlain 5 = .ok (.iaload, 1) := dk_46 (dkn dmcX12_workPlain (by decide +kernel))
theorem dX12_workPlain_6 : decode cX12_workPlain 6 = .ok (.istore 5, 2) := dk_54 (dkn dmcX12_workPlain (by decide +kernel))
theorem dX12_workPlain_8 : decode cX12_workPlain 8 = .ok (.aload_n 0, 1) := dk_42 (dkn dmcX12_workPlain (by decide +kernel))
theorem dX12_workPlain_9 : decode cX12_workPlain 9 = .ok (.getfield 19, 3) := dk_180 (a := 0) (b := 19) (dkn dmcX12_workPlain (by decide +kernel)) rfl
theorem dX12_workPlain_12 : decode cX12_workPlain 12 = .ok (.iload_n 2, 1) := dk_28 (dkn dmcX12_workPlain (by decide +kernel))
theorem dX12_workPlain_13 : decode cX12_workPlain 13 = .ok (.iaload, 1) := dk_46 (dkn dmcX12_workPlain (by decide +kernel))
theorem dX12_workPlain_14 : decode cX12_workPlain 14 = .ok (.istore 6, 2) := dk_54 (dkn dmcX12_workPlain (by decide +kernel))
theorem dX12_workPlain_16 : decode cX12_workPlain 16 = .ok (.aload_n 0, 1) := dk_42 (dkn dmcX12_workPlain (by decide +kernel))
theorem dX12_workPlain_17 : decode cX12_workPlain 17 = .ok (.getfield 13, 3) := dk_180 (a := 0) (b := 13) (dkn dmcX12_workPlain (by decide +kernel)) rfl
theorem dX12_workPlain_20 : decode cX12_workPlain 20 = .ok (.iload_n 2, 1) := dk_28 (dkn dmcX12_workPlain (by decide +kernel))
theorem dX12_workPlain_21 : decode cX12_workPlain 21 = .ok (.iaload, 1) := dk_46 (dkn dmcX12_workPlain (by decide +kernel))
theorem dX12_workPlain_22 : decode cX12_workPlain 22 = .ok (.tableswitch 280 0 17 #[86, 97, 134, 280, 280, 280, 280, 280, 280, 280, 280, 172, 280, 280, 280, 280, 203, 250], 86) := by decide +kernel
theorem dX12_workPlain_108 : decode cX12_workPlain 108 = .ok (.aload_n 0, 1) := dk_42 (dkn dmcX12_workPlain (by decide +kernel))
theorem dX12_workPlain_109 : decode cX12_workPlain 109 = .ok (.iload_n 3, 1) := dk_29 (dkn dmcX12_workPlain (by decide +kernel))
theorem dX12_workPlain_110 : decode cX12_workPlain 110 = .ok (.iconst 0, 1) := dk_3 (dkn dmcX12_workPlain (by decide +kernel))
theorem dX12_workPlain_111 : decode cX12_workPlain 111 = .ok (.iload 6, 2) := dk_21 (dkn dmcX12_workPlain (by decide +kernel))
theorem dX12_workPlain_113 : decode cX12_workPlain 113 = .ok (.invokevirtual 221, 3) := dk_182 (a := 0) (b := 221) (dkn dmcX12_workPlain (by decide +kernel)) rfl
theorem dX12_workPlain_116 : decode cX12_workPlain 116 = .ok (.goto 186, 3) := dk_167 (a := 0) (b := 186) (dkn dmcX12_workPlain (by decide +kernel)) rfl
theorem dX12_workPlain_119 : decode cX12_workPlain 119 = .ok (.iload 6, 2) := dk_21 (dkn dmcX12_workPlain (by decide +kernel))
theorem dX12_workPlain_121 : decode cX12_workPlain 121 = .ok (.bipush 12, 2) := dk_16 (a := 12) (dkn dmcX12_workPlain (by decide +kernel)) rfl
theorem dX12_workPlain_123 : decode cX12_workPlain 123 = .ok (.invokestatic 204, 3) := dk_184 (a := 0) (b := 204) (dkn dmcX12_workPlain (by decide +kernel)) rfl
theorem dX12_workPlain_126 : decode cX12_workPlain 126 = .ok (.istore 7, 2) := dk_54 (dkn dmcX12_workPlain (by decide +kernel))
theorem dX12_workPlain_128 : decode cX12_workPlain 128 = .ok (.aload_n 0, 1) := dk_42 (dkn dmcX12_workPlain (by decide +kernel))
theorem dX12_workPlain_129 : decode cX12_workPlain 129 = .ok (.iload 7, 2) := dk_21 (dkn dmcX12_workPlain (by decide +kernel))
theorem dX12_workPlain_131 : decode cX12_workPlain 131 = .ok (.putfield 228, 3) := dk_181 (a := 0) (b := 228) (dkn dmcX12_workPlain (by decide +kernel)) rfl
theorem dX12_workPlain_134 : decode cX12_workPlain 134 = .ok (.aload_n 0, 1) := dk_42 (dkn dmcX12_workPlain (by decide +kernel))
theorem dX12_workPlain_135 : decode cX12_workPlain 135 = .ok (.iload_n 3, 1) := dk_29 (dkn dmcX12_workPlain (by decide +kernel))
theorem dX12_workPlain_136 : decode cX12_workPlain 136 = .ok (.aload_n 0, 1) := dk_42 (dkn dmcX12_workPlain (by decide +kernel))
theorem dX12_workPlain_137 : decode cX12_workPlain 137 = .ok (.getfield 37, 3) := dk_180 (a := 0) (b := 37) (dkn dmcX12_workPlain (by decide +kernel)) rfl
theorem dX12_workPlain_140 : decode cX12_workPlain 140 = .ok (.iload 7, 2) := dk_21 (dkn dmcX12_workPlain (by decide +kernel))
theorem dX12_workPlain_142 : decode cX12_workPlain 142 = .ok (.iaload, 1) := dk_46 (dkn dmcX12_workPlain (by decide +kernel))
theorem dX12_workPlain_143 : decode cX12_workPlain 143 = .ok (.aload_n 0, 1) := dk_42 (dkn dmcX12_workPlain (by decide +kernel))
theorem dX12_workPlain_144 : decode cX12_workPlain 144 = .ok (.getfield 40, 3) := dk_180 (a := 0) (b := 40) (dkn dmcX12_workPlain (by decide +kernel)) rfl
theorem dX12_workPlain_147 : decode cX12_workPlain 147 = .ok (.iload 7, 2) := dk_21 (dkn dmcX12_workPlain (by decide +kernel))
theorem dX12_workPlain_149 : decode cX12_workPlain 149 = .ok (.iaload, 1) := dk_46 (dkn dmcX12_workPlain (by decide +kernel))
theorem dX12_workPlain_150 : decode cX12_workPlain 150 = .ok (.invokevirtual 221, 3) := dk_182 (a := 0) (b := 221) (dkn dmcX12_workPlain (by decide +kernel)) rfl
theorem dX12_workPlain_153 : decode cX12_workPlain 153 = .ok (.goto 149, 3) := dk_167 (a := 0) (b := 149) (dkn dmcX12_workPlain (by decide +kernel)) rfl
theorem dX12_workPlain_156 : decode cX12_workPlain 156 = .ok (.iload 5, 2) := dk_21 (dkn dmcX12_workPlain (by decide +kernel))
theorem dX12_workPlain_158 : decode cX12_workPlain 158 = .ok (.bipush 12, 2) := dk_16 (a := 12) (dkn dmcX12_workPlain (by decide +kernel)) rfl
theorem dX12_workPlain_160 : decode cX12_workPlain 160 = .ok (.invokestatic 204, 3) := dk_184 (a := 0) (b := 204) (dkn dmcX12_workPlain (by decide +kernel)) rfl
theorem dX12_workPlain_163 : decode cX12_workPlain 163 = .ok (.istore 7, 2) := dk_54 (dkn dmcX12_workPlain (by decide +kernel))
theorem dX12_workPlain_165 : decode cX12_workPlain 165 = .ok (.aload_n 0, 1) := dk_42 (dkn dmcX12_workPlain (by decide +kernel))
theorem dX12_workPlain_166 : decode cX12_workPlain 166 = .ok (.iload 7, 2) := dk_21 (dkn dmcX12_workPlain (by decide +kernel))
theorem dX12_workPlain_168 : decode cX12_workPlain 168 = .ok (.putfield 231, 3) := dk_181 (a := 0) (b := 231) (dkn dmcX12_workPlain (by decide +kernel)) rfl
theorem dX12_workPlain_171 : decode cX12_workPlain 171 = .ok (.aload_n 0, 1) := dk_42 (dkn dmcX12_workPlain (by decide +kernel))
theorem dX12_workPlain_172 : decode cX12_workPlain 172 = .ok (.iload 7, 2) := dk_21 (dkn dmcX12_workPlain (by decide +kernel))
theorem dX12_workPlain_174 : decode cX12_workPlain 174 = .ok (.aload_n 0, 1) := dk_42 (dkn dmcX12_workPlain (by decide +kernel))
theorem dX12_workPlain_175 : decode cX12_workPlain 175 = .ok (.getfield 37, 3) := dk_180 (a := 0) (b := 37) (dkn dmcX12_workPlain (by decide +kernel)) rfl
theorem dX12_workPlain_178 : decode cX12_workPlain 178 = .ok (.iload 4, 2) := dk_21 (dkn dmcX12_workPlain (by decide +kernel))
theorem dX12_workPlain_180 : decode cX12_workPlain 180 = .ok (.iaload, 1) := dk_46 (dkn dmcX12_workPlain (by decide +kernel))
theorem dX12_workPlain_181 : decode cX12_workPlain 181 = .ok (.aload_n 0, 1) := dk_42 (dkn dmcX12_workPlain (by decide +kernel))
theorem dX12_workPlain_182 : decode cX12_workPlain 182 = .ok (.getfield 40, 3) := dk_180 (a := 0) (b := 40) (dkn dmcX12_workPlain (by decide +kernel)) rfl
theorem dX12_workPlain_185 : decode cX12_workPlain 185 = .ok (.iload 4, 2) := dk_21 (dkn dmcX12_workPlain (by decide +kernel))
theorem dX12_workPlain_187 : decode cX12_workPlain 187 = .ok (.iaload, 1) := dk_46 (dkn dmcX12_workPlain (by decide +kernel))
theorem dX12_workPlain_188 : decode cX12_workPlain 188 = .ok (.invokevirtual 221, 3) := dk_182 (a := 0) (b := 221) (dkn dmcX12_workPlain (by decide +kernel)) rfl
theorem dX12_workPlain_191 : decode cX12_workPlain 191 = .ok (.goto 111, 3) := dk_167 (a := 0) (b := 111) (dkn dmcX12_workPlain (by decide +kernel)) rfl
theorem dX12_workPlain_194 : decode cX12_workPlain 194 = .ok (.iload 6, 2) := dk_21 (dkn dmcX12_workPlain (by decide +kernel))
theorem dX12_workPlain_196 : decode cX12_workPlain 196 = .ok (.iconst 2, 1) := dk_5 (dkn dmcX12_workPlain (by decide +kernel))
theorem dX12_workPlain_197 : decode cX12_workPlain 197 = .ok (.irem, 1) := dk_112 (dkn dmcX12_workPlain (by decide +kernel))
theorem dX12_workPlain_198 : decode cX12_workPlain 198 = .ok (.ifCond .ne 7, 3) := dk_154 (a := 0) (b := 7) (dkn dmcX12_workPlain (by decide +kernel)) rfl
theorem dX12_workPlain_201 : decode cX12_workPlain 201 = .ok (.iconst 2, 1) := dk_5 (dkn dmcX12_workPlain (by decide +kernel))
theorem dX12_workPlain_202 : decode cX12_workPlain 202 = .ok (.goto 4, 3) := dk_167 (a := 0) (b := 4) (dkn dmcX12_workPlain (by decide +kernel)) rfl
theorem dX12_workPlain_205 : decode cX12_workPlain 205 = .ok (.iconst 3, 1) := dk_6 (dkn dmcX12_workPlain (by decide +kernel))
theorem dX12_workPlain_206 : decode cX12_workPlain 206 = .ok (.istore 7, 2) := dk_54 (dkn dmcX12_workPlain (by decide +kernel))
theorem dX12_workPlain_208 : decode cX12_workPlain 208 = .ok (.aload_n 0, 1) := dk_42 (dkn dmcX12_workPlain (by decide +kernel))
theorem dX12_workPlain_209 : decode cX12_workPlain 209 = .ok (.iload_n 3, 1) := dk_29 (dkn dmcX12_workPlain (by decide +kernel))
theorem dX12_workPlain_210 : decode cX12_workPlain 210 = .ok (.iload 7, 2) := dk_21 (dkn dmcX12_workPlain (by decide +kernel))
theorem dX12_workPlain_212 : decode cX12_workPlain 212 = .ok (.aload_n 0, 1) := dk_42 (dkn dmcX12_workPlain (by decide +kernel))
theorem dX12_workPlain_213 : decode cX12_workPlain 213 = .ok (.iload 7, 2) := dk_21 (dkn dmcX12_workPlain (by decide +kernel))
theorem dX12_workPlain_215 : decode cX12_workPlain 215 = .ok (.iconst 0, 1) := dk_3 (dkn dmcX12_workPlain (by decide +kernel))
theorem dX12_workPlain_216 : decode cX12_workPlain 216 = .ok (.invokevirtual 225, 3) := dk_182 (a := 0) (b := 225) (dkn dmcX12_workPlain (by decide +kernel)) rfl
theorem dX12_workPlain_219 : decode cX12_workPlain 219 = .ok (.invokevirtual 221, 3) := dk_182 (a := 0) (b := 221) (dkn dmcX12_workPlain (by decide +kernel)) rfl
theorem dX12_workPlain_222 : decode cX12_workPlain 222 = .ok (.goto 80, 3) := dk_167 (a := 0) (b := 80) (dkn dmcX12_workPlain (by decide +kernel)) rfl
theorem dX12_workPlain_225 : decode cX12_workPlain 225 = .ok (.aload_n 0, 1) := dk_42 (dkn dmcX12_workPlain (by decide +kernel))
theorem dX12_workPlain_226 : decode cX12_workPlain 226 = .ok (.iload_n 3, 1) := dk_29 (dkn dmcX12_workPlain (by decide +kernel))
theorem dX12_workPlain_227 : decode cX12_workPlain 227 = .ok (.iconst 0, 1) := dk_3 (dkn dmcX12_workPlain (by decide +kernel))
theorem dX12_workPlain_228 : decode cX12_workPlain 228 = .ok (.aload_n 0, 1) := dk_42 (dkn dmcX12_workPlain (by decide +kernel))
theorem dX12_workPlain_229 : decode cX12_workPlain 229 = .ok (.getfield 218, 3) := dk_180 (a := 0) (b := 218) (dkn dmcX12_workPlain (by decide +kernel)) rfl
theorem dX12_workPlain_232 : decode cX12_workPlain 232 = .ok (.ifCond .eq 15, 3) := dk_153 (a := 0) (b := 15) (dkn dmcX12_workPlain (by decide +kernel)) rfl
theorem dX12_workPlain_235 : decode cX12_workPlain 235 = .ok (.aload_n 0, 1) := dk_42 (dkn dmcX12_workPlain (by decide +kernel))
theorem dX12_workPlain_236 : decode cX12_workPlain 236 = .ok (.getfield 117, 3) := dk_180 (a := 0) (b := 117) (dkn dmcX12_workPlain (by decide +kernel)) rfl
theorem dX12_workPlain_239 : decode cX12_workPlain 239 = .ok (.aload_n 0, 1) := dk_42 (dkn dmcX12_workPlain (by decide +kernel))
theorem dX12_workPlain_240 : decode cX12_workPlain 240 = .ok (.getfield 188, 3) := dk_180 (a := 0) (b := 188) (dkn dmcX12_workPlain (by decide +kernel)) rfl
theorem dX12_workPlain_243 : decode cX12_workPlain 243 = .ok (.iaload, 1) := dk_46 (dkn dmcX12_workPlain (by decide +kernel))
theorem dX12_workPlain_244 : decode cX12_workPlain 244 = .ok (.goto 12, 3) := dk_167 (a := 0) (b := 12) (dkn dmcX12_workPlain (by decide +kernel)) rfl
theorem dX12_workPlain_247 : decode cX12_workPlain 247 = .ok (.aload_n 0, 1) := dk_42 (dkn dmcX12_workPlain (by decide +kernel))
theorem dX12_workPlain_248 : decode cX12_workPlain 248 = .ok (.getfield 28, 3) := dk_180 (a := 0) (b := 28) (dkn dmcX12_workPlain (by decide +kernel)) rfl
theorem dX12_workPlain_251 : decode cX12_workPlain 251 = .ok (.aload_n 0, 1) := dk_42 (dkn dmcX12_workPlain (by decide +kernel))
theorem dX12_workPlain_252 : decode cX12_workPlain 252 = .ok (.getfield 188, 3) := dk_180 (a := 0) (b := 188) (dkn dmcX12_workPlain (by decide +kernel)) rfl
theorem dX12_workPlain_255 : decode cX12_workPlain 255 = .ok (.iaload, 1) := dk_46 (dkn dmcX12_workPlain (by decide +kernel))
theorem dX12_workPlain_256 : decode cX12_workPlain 256 = .ok (.invokevirtual 221, 3) := dk_182 (a := 0) (b := 221) (dkn dmcX12_workPlain (by decide +kernel)) rfl
theorem dX12_workPlain_259 : decode cX12_workPlain 259 = .ok (.aload_n 0, 1) := dk_42 (dkn dmcX12_workPlain (by decide +kernel))
theorem dX12_workPlain_260 : decode cX12_workPlain 260 = .ok (.dup, 1) := dk_89 (dkn dmcX12_workPlain (by decide +kernel))
theorem dX12_workPlain_261 : decode cX12_workPlain 261 = .ok (.getfield 188, 3) := dk_180 (a := 0) (b := 188) (dkn dmcX12_workPlain (by decide +kernel)) rfl
theorem dX12_workPlain_264 : decode cX12_workPlain 264 = .ok (.iconst 1, 1) := dk_4 (dkn dmcX12_workPlain (by decide +kernel))
theorem dX12_workPlain_265 : decode cX12_workPlain 265 = .ok (.iadd, 1) := dk_96 (dkn dmcX12_workPlain (by decide +kernel))
theorem dX12_workPlain_266 : decode cX12_workPlain 266 = .ok (.putfield 188, 3) := dk_181 (a := 0) (b := 188) (dkn dmcX12_workPlain (by decide +kernel)) rfl
theorem dX12_workPlain_269 : decode cX12_workPlain 269 = .ok (.goto 33, 3) := dk_167 (a := 0) (b := 33) (dkn dmcX12_workPlain (by decide +kernel)) rfl
theorem dX12_workPlain_272 : decode cX12_workPlain 272 = .ok (.aload_n 0, 1) := dk_42 (dkn dmcX12_workPlain (by decide +kernel))
theorem dX12_workPlain_273 : decode cX12_workPlain 273 = .ok (.getfield 46, 3) := dk_180 (a := 0) (b := 46) (dkn dmcX12_workPlain (by decide +kernel)) rfl
theorem dX12_workPlain_276 : decode cX12_workPlain 276 = .ok (.iload 5, 2) := dk_21 (dkn dmcX12_workPlain (by decide +kernel))
theorem dX12_workPlain_278 : decode cX12_workPlain 278 = .ok (.iconst 4, 1) := dk_7 (dkn dmcX12_workPlain (by decide +kernel))
theorem dX12_workPlain_279 : decode cX12_workPlain 279 = .ok (.invokestatic 204, 3) := dk_184 (a := 0) (b := 204) (dkn dmcX12_workPlain (by decide +kernel)) rfl
theorem dX12_workPlain_282 : decode cX12_workPlain 282 = .ok (.iconst 1, 1) := dk_4 (dkn dmcX12_workPlain (by decide +kernel))
theorem dX12_workPlain_283 : decode cX12_workPlain 283 = .ok (.bastore, 1) := dk_84 (dkn dmcX12_workPlain (by decide +kernel))
theorem dX12_workPlain_284 : decode cX12_workPlain 284 = .ok (.aload_n 0, 1) := dk_42 (dkn dmcX12_workPlain (by decide +kernel))
theorem dX12_workPlain_285 : decode cX12_workPlain 285 = .ok (.iconst 4, 1) := dk_7 (dkn dmcX12_workPlain (by decide +kernel))
theorem dX12_workPlain_286 : decode cX12_workPlain 286 = .ok (.putfield 234, 3) := dk_181 (a := 0) (b := 234) (dkn dmcX12_workPlain (by decide +kernel)) rfl
theorem dX12_workPlain_289 : decode cX12_workPlain 289 = .ok (.aload_n 0, 1) := dk_42 (dkn dmcX12_workPlain (by decide +kernel))
theorem dX12_workPlain_290 : decode cX12_workPlain 290 = .ok (.iload 5, 2) := dk_21 (dkn dmcX12_workPlain (by decide +kernel))
theorem dX12_workPlain_292 : decode cX12_workPlain 292 = .ok (.iconst 4, 1) := dk_7 (dkn dmcX12_workPlain (by decide +kernel))
theorem dX12_workPlain_293 : decode cX12_workPlain 293 = .ok (.invokestatic 204, 3) := dk_184 (a := 0) (b := 204) (dkn dmcX12_workPlain (by decide +kernel)) rfl
theorem dX12_workPlain_296 : decode cX12_workPlain 296 = .ok (.putfield 237, 3) := dk_181 (a := 0) (b := 237) (dkn dmcX12_workPlain (by decide +kernel)) rfl
theorem dX12_workPlain_299 : decode cX12_workPlain 299 = .ok (.goto 3, 3) := dk_167 (a := 0) (b := 3) (dkn dmcX12_workPlain (by decide +kernel)) rfl
theorem dX12_workPlain_302 : decode cX12_workPlain 302 = .ok (.return_, 1) := dk_177 (dkn dmcX12_workPlain (by decide +kernel))
def dncX12_step : Nat := 0xb1c500b51b2abf00b56004bf00b4592afd00b61c1b2ab1c800b5042a0900a0fa00b42abc00b42a140099da00b42a1b00a010102e1c0d00b42a2c00a7f600b660042e1b2b00b42a1b2a4f021b3500b42aed00b52e1b3500b42a2aea00b5042a4f1b2e1b3500b42a3b00b42a35009b2e1b3500b42aed00b5022aea00b5032ae700b5fe102ae400b5fe102af300b52e1c0d00b42a2af000b52e1b2b00b42a2a3d602e1b2b00b42a681b1810
theorem dmcX12_step : dkc dncX12_step 170 cX12_step.data.toList 0 = true := by decide +kernel
theorem dX12_step_0 : decode cX12_step 0 = .ok (.bipush 24, 2) := dk_16 (a := 24) (dkn dmcX12_step (by decide +kernel)) rfl
theorem dX12_step_2 : decode cX12_step 2 = .ok (.iload_n 1, 1) := dk_27 (dkn dmcX12_step (by decide +kernel))
theorem dX12_step_3 : decode cX12_step 3 = .ok (.imul, 1) := dk_104 (dkn dmcX12_step (by decide +kernel))
theorem dX12_step_4 : decode cX12_step 4 = .ok (.aload_n 0, 1) := dk_42 (dkn dmcX12_step (by decide +kernel))
theorem dX12_step_5 : decode cX12_step 5 = .ok (.getfield 43, 3) := dk_180 (a := 0) (b := 43) (dkn dmcX12_step (by decide +kernel)) rfl
theorem dX12_step_8 : decode cX12_step 8 = .ok (.iload_n 1, 1) := dk_27 (dkn dmcX12_step (by decide +kernel))
theorem dX12_step_9 : decode cX12_step 9 = .ok (.iaload, 1) := dk_46 (dkn dmcX12_step (by decide +kernel))
theorem dX12_step_10 : decode cX12_step 10 = .ok (.iadd, 1) := dk_96 (dkn dmcX12_step (by decide +kernel))
theorem dX12_step_11 : decode cX12_step 11 = .ok (.istore_n 2, 1) := dk_61 (dkn dmcX12_step (by decide +kernel))
theorem dX12_step_12 : decode cX12_step 12 = .ok (.aload_n 0, 1) := dk_42 (dkn dmcX12_step (by decide +kernel))
theorem dX12_step_13 : decode cX12_step 13 = .ok (.aload_n 0, 1) := dk_42 (dkn dmcX12_step (by decide +kernel))
theorem dX12_step_14 : decode cX12_step 14 = .ok (.getfield 43, 3) := dk_180 (a := 0) (b := 43) (dkn dmcX12_step (by decide +kernel)) rfl
theorem dX12_step_17 : decode cX12_step 17 = .ok (.iload_n 1, 1) := dk_27 (dkn dmcX12_step (by decide +kernel))
theorem dX12_step_18 : decode cX12_step 18 = .ok (.iaload, 1) := dk_46 (dkn dmcX12_step (by decide +kernel))
theorem dX12_step_19 : decode cX12_step 19 = .ok (.putfield 240, 3) := dk_181 (a := 0) (b := 240) (dkn dmcX12_step (by decide +kernel)) rfl
theorem dX12_step_22 : decode cX12_step 22 = .ok (.aload_n 0, 1) := dk_42 (dkn dmcX12_step (by decide +kernel))
theorem dX12_step_23 : decode cX12_step 23 = .ok (.aload_n 0, 1) := dk_42 (dkn dmcX12_step (by decide +kernel))
theorem dX12_step_24 : decode cX12_step 24 = .ok (.getfield 13, 3) := dk_180 (a := 0) (b := 13) (dkn dmcX12_step (by decide +kernel)) rfl
theorem dX12_step_27 : decode cX12_step 27 = .ok (.iload_n 2, 1) := dk_28 (dkn dmcX12_step (by decide +kernel))
theorem dX12_step_28 : decode cX12_step 28 = .ok (.iaload, 1) := dk_46 (dkn dmcX12_step (by decide +kernel))
theorem dX12_step_29 : decode cX12_step 29 = .ok (.putfield 243, 3) := dk_181 (a := 0) (b := 243) (dkn dmcX12_step (by decide +kernel)) rfl
theorem dX12_step_32 : decode cX12_step 32 = .ok (.aload_n 0, 1) := dk_42 (dkn dmcX12_step (by decide +kernel))
theorem dX12_step_33 : decode cX12_step 33 = .ok (.bipush (-2), 2) := dk_16 (a := 254) (dkn dmcX12_step (by decide +kernel)) rfl
theorem dX12_step_35 : decode cX12_step 35 = .ok (.putfield 228, 3) := dk_181 (a := 0) (b := 228) (dkn dmcX12_step (by decide +kernel)) rfl
theorem dX12_step_38 : decode cX12_step 38 = .ok (.aload_n 0, 1) := dk_42 (dkn dmcX12_step (by decide +kernel))
theorem dX12_step_39 : decode cX12_step 39 = .ok (.bipush (-2), 2) := dk_16 (a := 254) (dkn dmcX12_step (by decide +kernel)) rfl
theorem dX12_step_41 : decode cX12_step 41 = .ok (.putfield 231, 3) := dk_181 (a := 0) (b := 231) (dkn dmcX12_step (by decide +kernel)) rfl
theorem dX12_step_44 : decode cX12_step 44 = .ok (.aload_n 0, 1) := dk_42 (dkn dmcX12_step (by decide +kernel))
theorem dX12_step_45 : decode cX12_step 45 = .ok (.iconst 0, 1) := dk_3 (dkn dmcX12_step (by decide +kernel))
theorem dX12_step_46 : decode cX12_step 46 = .ok (.putfield 234, 3) := dk_181 (a := 0) (b := 234) (dkn dmcX12_step (by decide +kernel)) rfl
theorem dX12_step_49 : decode cX12_step 49 = .ok (.aload_n 0, 1) := dk_42 (dkn dmcX12_step (by decide +kernel))
theorem dX12_step_50 : decode cX12_step 50 = .ok (.iconst (-1), 1) := dk_2 (dkn dmcX12_step (by decide +kernel))
theorem dX12_step_51 : decode cX12_step 51 = .ok (.putfield 237, 3) := dk_181 (a := 0) (b := 237) (dkn dmcX12_step (by decide +kernel)) rfl
theorem dX12_step_54 : decode cX12_step 54 = .ok (.aload_n 0, 1) := dk_42 (dkn dmcX12_step (by decide +kernel))
theorem dX12_step_55 : decode cX12_step 55 = .ok (.getfield 53, 3) := dk_180 (a := 0) (b := 53) (dkn dmcX12_step (by decide +kernel)) rfl
theorem dX12_step_58 : decode cX12_step 58 = .ok (.iload_n 1, 1) := dk_27 (dkn dmcX12_step (by decide +kernel))
theorem dX12_step_59 : decode cX12_step 59 = .ok (.iaload, 1) := dk_46 (dkn dmcX12_step (by decide +kernel))
theorem dX12_step_60 : decode cX12_step 60 = .ok (.ifCond .lt 53, 3) := dk_155 (a := 0) (b := 53) (dkn dmcX12_step (by decide +kernel)) rfl
theorem dX12_step_63 : decode cX12_step 63 = .ok (.aload_n 0, 1) := dk_42 (dkn dmcX12_step (by decide +kernel))
theorem dX12_step_64 : decode cX12_step 64 = .ok (.getfield 59, 3) := dk_180 (a := 0) (b := 59) (dkn dmcX12_step (by decide +kernel)) rfl
theorem dX12_step_67 : decode cX12_step 67 = .ok (.aload_n 0, 1) := dk_42 (dkn dmcX12_step (by decide +kernel))
theorem dX12_step_68 : decode cX12_step 68 = .ok (.getfield 53, 3) := dk_180 (a := 0) (b := 53) (dkn dmcX12_step (by decide +kernel)) rfl
theorem dX12_step_71 : decode cX12_step 71 = .ok (.iload_n 1, 1) := dk_27 (dkn dmcX12_step (by decide +kernel))
theorem dX12_step_72 : decode cX12_step 72 = .ok (.iaload, 1) := dk_46 (dkn dmcX12_step (by decide +kernel))
theorem dX12_step_73 : decode cX12_step 73 = .ok (.iload_n 1, 1) := dk_27 (dkn dmcX12_step (by decide +kernel))
theorem dX12_step_74 : decode cX12_step 74 = .ok (.iastore, 1) := dk_79 (dkn dmcX12_step (by decide +kernel))
theorem dX12_step_75 : decode cX12_step 75 = .ok (.aload_n 0, 1) := dk_42 (dkn dmcX12_step (by decide +kernel))
theorem dX12_step_76 : decode cX12_step 76 = .ok (.iconst 1, 1) := dk_4 (dkn dmcX12_step (by decide +kernel))
theorem dX12_step_77 : decode cX12_step 77 = .ok (.putfield 234, 3) := dk_181 (a := 0) (b := 234) (dkn dmcX12_step (by decide +kernel)) rfl
theorem dX12_step_80 : decode cX12_step 80 = .ok (.aload_n 0, 1) := dk_42 (dkn dmcX12_step (by decide +kernel))
theorem dX12_step_81 : decode cX12_step 81 = .ok (.aload_n 0, 1) := dk_42 (dkn dmcX12_step (by decide +kernel))
theorem dX12_step_82 : decode cX12_step 82 = .ok (.getfield 53, 3) := dk_180 (a := 0) (b := 53) (dkn dmcX12_step (by decide +kernel)) rfl
theorem dX12_step_85 : decode cX12_step 85 = .ok (.iload_n 1, 1) := dk_27 (dkn dmcX12_step (by decide +kernel))
theorem dX12_step_86 : decode cX12_step 86 = .ok (.iaload, 1) := dk_46 (dkn dmcX12_step (by decide +kernel))
theorem dX12_step_87 : decode cX12_step 87 = .ok (.putfield 237, 3) := dk_181 (a := 0) (b := 237) (dkn dmcX12_step (by decide +kernel)) rfl
theorem dX12_step_90 : decode cX12_step 90 = .ok (.aload_n 0, 1) := dk_42 (dkn dmcX12_step (by decide +kernel))
theorem dX12_step_91 : decode cX12_step 91 = .ok (.getfield 53, 3) := dk_180 (a := 0) (b := 53) (dkn dmcX12_step (by decide +kernel)) rfl
theorem dX12_step_94 : decode cX12_step 94 = .ok (.iload_n 1, 1) := dk_27 (dkn dmcX12_step (by decide +kernel))
theorem dX12_step_95 : decode cX12_step 95 = .ok (.iconst (-1), 1) := dk_2 (dkn dmcX12_step (by decide +kernel))
theorem dX12_step_96 : decode cX12_step 96 = .ok (.iastore, 1) := dk_79 (dkn dmcX12_step (by decide +kernel))
theorem dX12_step_97 : decode cX12_step 97 = .ok (.aload_n 0, 1) := dk_42 (dkn dmcX12_step (by decide +kernel))
theorem dX12_step_98 : decode cX12_step 98 = .ok (.iload_n 1, 1) := dk_27 (dkn dmcX12_step (by decide +kernel))
theorem dX12_step_99 : decode cX12_step 99 = .ok (.aload_n 0, 1) := dk_42 (dkn dmcX12_step (by decide +kernel))
theorem dX12_step_100 : decode cX12_step 100 = .ok (.getfield 43, 3) := dk_180 (a := 0) (b := 43) (dkn dmcX12_step (by decide +kernel)) rfl
theorem dX12_step_103 : decode cX12_step 103 = .ok (.iload_n 1, 1) := dk_27 (dkn dmcX12_step (by decide +kernel))
theorem dX12_step_104 : decode cX12_step 104 = .ok (.iaload, 1) := dk_46 (dkn dmcX12_step (by decide +kernel))
theorem dX12_step_105 : decode cX12_step 105 = .ok (.iconst 1, 1) := dk_4 (dkn dmcX12_step (by decide +kernel))
theorem dX12_step_106 : decode cX12_step 106 = .ok (.iadd, 1) := dk_96 (dkn dmcX12_step (by decide +kernel))
theorem dX12_step_107 : decode cX12_step 107 = .ok (.invokevirtual 246, 3) := dk_182 (a := 0) (b := 246) (dkn dmcX12_step (by decide +kernel)) rfl
theorem dX12_step_110 : decode cX12_step 110 = .ok (.goto 44, 3) := dk_167 (a := 0) (b := 44) (dkn dmcX12_step (by decide +kernel)) rfl
theorem dX12_step_113 : decode cX12_step 113 = .ok (.aload_n 0, 1) := dk_42 (dkn dmcX12_step (by decide +kernel))
theorem dX12_step_114 : decode cX12_step 114 = .ok (.getfield 13, 3) := dk_180 (a := 0) (b := 13) (dkn dmcX12_step (by decide +kernel)) rfl
theorem dX12_step_117 : decode cX12_step 117 = .ok (.iload_n 2, 1) := dk_28 (dkn dmcX12_step (by decide +kernel))
theorem dX12_step_118 : decode cX12_step 118 = .ok (.iaload, 1) := dk_46 (dkn dmcX12_step (by decide +kernel))
theorem dX12_step_119 : decode cX12_step 119 = .ok (.bipush 16, 2) := dk_16 (a := 16) (dkn dmcX12_step (by decide +kernel)) rfl
theorem dX12_step_121 : decode cX12_step 121 = .ok (.if_icmp .ne 27, 3) := dk_160 (a := 0) (b := 27) (dkn dmcX12_step (by decide +kernel)) rfl
theorem dX12_step_124 : decode cX12_step 124 = .ok (.aload_n 0, 1) := dk_42 (dkn dmcX12_step (by decide +kernel))
theorem dX12_step_125 : decode cX12_step 125 = .ok (.getfield 218, 3) := dk_180 (a := 0) (b := 218) (dkn dmcX12_step (by decide +kernel)) rfl
theorem dX12_step_128 : decode cX12_step 128 = .ok (.ifCond .eq 20, 3) := dk_153 (a := 0) (b := 20) (dkn dmcX12_step (by decide +kernel)) rfl
theorem dX12_step_131 : decode cX12_step 131 = .ok (.aload_n 0, 1) := dk_42 (dkn dmcX12_step (by decide +kernel))
theorem dX12_step_132 : decode cX12_step 132 = .ok (.getfield 188, 3) := dk_180 (a := 0) (b := 188) (dkn dmcX12_step (by decide +kernel)) rfl
theorem dX12_step_135 : decode cX12_step 135 = .ok (.aload_n 0, 1) := dk_42 (dkn dmcX12_step (by decide +kernel))
theorem dX12_step_136 : decode cX12_step 136 = .ok (.getfield 250, 3) := dk_180 (a := 0) (b := 250) (dkn dmcX12_step (by decide +kernel)) rfl
theorem dX12_step_139 : decode cX12_step 139 = .ok (.if_icmp .ne 9, 3) := dk_160 (a := 0) (b := 9) (dkn dmcX12_step (by decide +kernel)) rfl
theorem dX12_step_142 : decode cX12_step 142 = .ok (.aload_n 0, 1) := dk_42 (dkn dmcX12_step (by decide +kernel))
theorem dX12_step_143 : decode cX12_step 143 = .ok (.iconst 1, 1) := dk_4 (dkn dmcX12_step (by decide +kernel))
theorem dX12_step_144 : decode cX12_step 144 = .ok (.putfield 200, 3) := dk_181 (a := 0) (b := 200) (dkn dmcX12_step (by decide +kernel)) rfl
theorem dX12_step_147 : decode cX12_step 147 = .ok (.return_, 1) := dk_177 (dkn dmcX12_step (by decide +kernel))
theorem dX12_step_148 : decode cX12_step 148 = .ok (.aload_n 0, 1) := dk_42 (dkn dmcX12_step (by decide +kernel))
theorem dX12_step_149 : decode cX12_step 149 = .ok (.iload_n 1, 1) := dk_27 (dkn dmcX12_step (by decide +kernel))
theorem dX12_step_150 : decode cX12_step 150 = .ok (.iload_n 2, 1) := dk_28 (dkn dmcX12_step (by decide +kernel))
theorem dX12_step_151 : decode cX12_step 151 = .ok (.invokevirtual 253, 3) := dk_182 (a := 0) (b := 253) (dkn dmcX12_step (by decide +kernel)) rfl
theorem dX12_step_154 : decode cX12_step 154 = .ok (.aload_n 0, 1) := dk_42 (dkn dmcX12_step (by decide +kernel))
theorem dX12_step_155 : decode cX12_step 155 = .ok (.dup, 1) := dk_89 (dkn dmcX12_step (by decide +kernel))
theorem dX12_step_156 : decode cX12_step 156 = .ok (.getfield 191, 3) := dk_180 (a := 0) (b := 191) (dkn dmcX12_step (by decide +kernel)) rfl
theorem dX12_step_159 : decode cX12_step 159 = .ok (.iconst 1, 1) := dk_4 (dkn dmcX12_step (by decide +kernel))
theorem dX12_step_160 : decode cX12_step 160 = .ok (.iadd, 1) := dk_96 (dkn dmcX12_step (by decide +kernel))
theorem dX12_step_161 : decode cX12_step 161 = .ok (.putfield 191, 3) := dk_181 (a := 0) (b := 191) (dkn dmcX12_step (by decide +kernel)) rfl
theorem dX12_step_164 : decode cX12_step 164 = .ok (.aload_n 0, 1) := dk_42 (dkn dmcX12_step (by decide +kernel))
theorem dX12_step_165 : decode cX12_step 165 = .ok (.iload_n 1, 1) := dk_27 (dkn dmcX12_step (by decide +kernel))
theorem dX12_step_166 : decode cX12_step 166 = .ok (.putfield 197, 3) := dk_181 (a := 0) (b := 197) (dkn dmcX12_step (by decide +kernel)) rfl
theorem dX12_step_169 : decode cX12_step 169 = .ok (.return_, 1) := dk_177 (dkn dmcX12_step (by decide +kernel))
def dncX12_instruct : Nat := 0xb1f600b660042e1b2b00b42a0b00a7071508009906151500a718100800a013102e1c0d00b42a1b2a2a009f0e102e1c0d00b42a0801b604151d1c1b2a0401b6051504151d2e1c0d00b42a1b2a07362e1c1300b42a0900a72e1c1000b42a0c00a006102e1c0d00b42a0636030400a70407009a2e1d2800b42a1000a007102e1c0d00b42a17009f06102e1c0d00b42ab104009ec200b42ac200b5c200b42a0700a70807009933cc00b8072e1c1000b42a2e00b42a1900a011102e1c0d00b42a2ac200b50001b62e1c1300b42a051504151d2e1c0d00b42a1b2a2a0536d000b62e1c1600b42a1b2a0436d000b62e1c1300b42a1b2a3ed000b62e1c1000b42a1b2a
theorem dmcX12_instruct : dkc dncX12_instruct 255 cX12_instruct.data.toList 0 = true := by decide +kernel
theorem dX12_instruct_0 : decode cX12_instruct 0 = .ok (.aload_n 0, 1) := dk_42 (dkn dmcX12_instruct (by decide +kernel))
theorem dX12_instruct_1 : decode cX12_instruct 1 = .ok (.iload_n 1, 1) := dk_27 (dkn dmcX12_instruct (by decide +kernel))
theorem dX12_instruct_2 : decode cX12_instruct 2 = .ok (.aload_n 0, 1) := dk_42 (dkn dmcX12_instruct (by decide +kernel))
theorem dX12_instruct_3 : decode cX12_instruct 3 = .ok (.getfield 16, 3) := dk_180 (a := 0) (b := 16) (dkn dmcX12_instruct (by decide +kernel)) rfl
theorem dX12_instruct_6 : decode cX12_instruct 6 = .ok (.iload_n 2, 1) := dk_28 (dkn dmcX12_instruct (by decide +kernel))
theorem dX12_instruct_7 : decode cX12_instruct 7 = .ok (.iaload, 1) := dk_46 (dkn dmcX12_instruct (by decide +kernel))
theorem dX12_instruct_8 : decode cX12_instruct 8 = .ok (.invokevirtual 208, 3) := dk_182 (a := 0) (b := 208) (dkn dmcX12_instruct (by decide +kernel)) rfl
theorem dX12_instruct_11 : decode cX12_instruct 11 = .ok (.istore_n 3, 1) := dk_62 (dkn dmcX12_instruct (by decide +kernel))
theorem dX12_instruct_12 : decode cX12_instruct 12 = .ok (.aload_n 0, 1) := dk_42 (dkn dmcX12_instruct (by decide +kernel))
theorem dX12_instruct_13 : decode cX12_instruct 13 = .ok (.iload_n 1, 1) := dk_27 (dkn dmcX12_instruct (by decide +kernel))
theorem dX12_instruct_14 : decode cX12_instruct 14 = .ok (.aload_n 0, 1) := dk_42 (dkn dmcX12_instruct (by decide +kernel))
theorem dX12_instruct_15 : decode cX12_instruct 15 = .ok (.getfield 19, 3) := dk_180 (a := 0) (b := 19) (dkn dmcX12_instruct (by decide +kernel)) rfl
theorem dX12_instruct_18 : decode cX12_instruct 18 = .ok (.iload_n 2, 1) := dk_28 (dkn dmcX12_instruct (by decide +kernel))
theorem dX12_instruct_19 : decode cX12_instruct 19 = .ok (.iaload, 1) := dk_46 (dkn dmcX12_instruct (by decide +kernel))
theorem dX12_instruct_20 : decode cX12_instruct 20 = .ok (.invokevirtual 208, 3) := dk_182 (a := 0) (b := 208) (dkn dmcX12_instruct (by decide +kernel)) rfl
theorem dX12_instruct_23 : decode cX12_instruct 23 = .ok (.istore 4, 2) := dk_54 (dkn dmcX12_instruct (by decide +kernel))
theorem dX12_instruct_25 : decode cX12_instruct 25 = .ok (.aload_n 0, 1) := dk_42 (dkn dmcX12_instruct (by decide +kernel))
theorem dX12_instruct_26 : decode cX12_instruct 26 = .ok (.iload_n 1, 1) := dk_27 (dkn dmcX12_instruct (by decide +kernel))
theorem dX12_instruct_27 : decode cX12_instruct 27 = .ok (.aload_n 0, 1) := dk_42 (dkn dmcX12_instruct (by decide +kernel))
theorem dX12_instruct_28 : decode cX12_instruct 28 = .ok (.getfield 22, 3) := dk_180 (a := 0) (b := 22) (dkn dmcX12_instruct (by decide +kernel)) rfl
theorem dX12_instruct_31 : decode cX12_instruct 31 = .ok (.iload_n 2, 1) := dk_28 (dkn dmcX12_instruct (by decide +kernel))
theorem dX12_instruct_32 : decode cX12_instruct 32 = .ok (.iaload, 1) := dk_46 (dkn dmcX12_instruct (by decide +kernel))
theorem dX12_instruct_33 : decode cX12_instruct 33 = .ok (.invokevirtual 208, 3) := dk_182 (a := 0) (b := 208) (dkn dmcX12_instruct (by decide +kernel)) rfl
theorem dX12_instruct_36 : decode cX12_instruct 36 = .ok (.istore 5, 2) := dk_54 (dkn dmcX12_instruct (by decide +kernel))
theorem dX12_instruct_38 : decode cX12_instruct 38 = .ok (.aload_n 0, 1) := dk_42 (dkn dmcX12_instruct (by decide +kernel))
theorem dX12_instruct_39 : decode cX12_instruct 39 = .ok (.aload_n 0, 1) := dk_42 (dkn dmcX12_instruct (by decide +kernel))
theorem dX12_instruct_40 : decode cX12_instruct 40 = .ok (.iload_n 1, 1) := dk_27 (dkn dmcX12_instruct (by decide +kernel))
theorem dX12_instruct_41 : decode cX12_instruct 41 = .ok (.aload_n 0, 1) := dk_42 (dkn dmcX12_instruct (by decide +kernel))
theorem dX12_instruct_42 : decode cX12_instruct 42 = .ok (.getfield 13, 3) := dk_180 (a := 0) (b := 13) (dkn dmcX12_instruct (by decide +kernel)) rfl
theorem dX12_instruct_45 : decode cX12_instruct 45 = .ok (.iload_n 2, 1) := dk_28 (dkn dmcX12_instruct (by decide +kernel))
theorem dX12_instruct_46 : decode cX12_instruct 46 = .ok (.iaload, 1) := dk_46 (dkn dmcX12_instruct (by decide +kernel))
theorem dX12_instruct_47 : decode cX12_instruct 47 = .ok (.iload_n 3, 1) := dk_29 (dkn dmcX12_instruct (by decide +kernel))
theorem dX12_instruct_48 : decode cX12_instruct 48 = .ok (.iload 4, 2) := dk_21 (dkn dmcX12_instruct (by decide +kernel))
theorem dX12_instruct_50 : decode cX12_instruct 50 = .ok (.iload 5, 2) := dk_21 (dkn dmcX12_instruct (by decide +kernel))
theorem dX12_instruct_52 : decode cX12_instruct 52 = .ok (.aload_n 0, 1) := dk_42 (dkn dmcX12_instruct (by decide +kernel))
theorem dX12_instruct_53 : decode cX12_instruct 53 = .ok (.getfield 19, 3) := dk_180 (a := 0) (b := 19) (dkn dmcX12_instruct (by decide +kernel)) rfl
theorem dX12_instruct_56 : decode cX12_instruct 56 = .ok (.iload_n 2, 1) := dk_28 (dkn dmcX12_instruct (by decide +kernel))
theorem dX12_instruct_57 : decode cX12_instruct 57 = .ok (.iaload, 1) := dk_46 (dkn dmcX12_instruct (by decide +kernel))
theorem dX12_instruct_58 : decode cX12_instruct 58 = .ok (.invokevirtual 256, 3) := dk_182 (a := 1) (b := 0) (dkn dmcX12_instruct (by decide +kernel)) rfl
theorem dX12_instruct_61 : decode cX12_instruct 61 = .ok (.putfield 194, 3) := dk_181 (a := 0) (b := 194) (dkn dmcX12_instruct (by decide +kernel)) rfl
theorem dX12_instruct_64 : decode cX12_instruct 64 = .ok (.aload_n 0, 1) := dk_42 (dkn dmcX12_instruct (by decide +kernel))
theorem dX12_instruct_65 : decode cX12_instruct 65 = .ok (.aload_n 0, 1) := dk_42 (dkn dmcX12_instruct (by decide +kernel))
theorem dX12_instruct_66 : decode cX12_instruct 66 = .ok (.getfield 13, 3) := dk_180 (a := 0) (b := 13) (dkn dmcX12_instruct (by decide +kernel)) rfl
theorem dX12_instruct_69 : decode cX12_instruct 69 = .ok (.iload_n 2, 1) := dk_28 (dkn dmcX12_instruct (by decide +kernel))
theorem dX12_instruct_70 : decode cX12_instruct 70 = .ok (.iaload, 1) := dk_46 (dkn dmcX12_instruct (by decide +kernel))
theorem dX12_instruct_71 : decode cX12_instruct 71 = .ok (.bipush 17, 2) := dk_16 (a := 17) (dkn dmcX12_instruct (by decide +kernel)) rfl
theorem dX12_instruct_73 : decode cX12_instruct 73 = .ok (.if_icmp .ne 25, 3) := dk_160 (a := 0) (b := 25) (dkn dmcX12_instruct (by decide +kernel)) rfl
theorem dX12_instruct_76 : decode cX12_instruct 76 = .ok (.aload_n 0, 1) := dk_42 (dkn dmcX12_instruct (by decide +kernel))
theorem dX12_instruct_77 : decode cX12_instruct 77 = .ok (.getfield 46, 3) := dk_180 (a := 0) (b := 46) (dkn dmcX12_instruct (by decide +kernel)) rfl
theorem dX12_instruct_80 : decode cX12_instruct 80 = .ok (.aload_n 0, 1) := dk_42 (dkn dmcX12_instruct (by decide +kernel))
theorem dX12_instruct_81 : decode cX12_instruct 81 = .ok (.getfield 16, 3) := dk_180 (a := 0) (b := 16) (dkn dmcX12_instruct (by decide +kernel)) rfl
theorem dX12_instruct_84 : decode cX12_instruct 84 = .ok (.iload_n 2, 1) := dk_28 (dkn dmcX12_instruct (by decide +kernel))
theorem dX12_instruct_85 : decode cX12_instruct 85 = .ok (.iaload, 1) := dk_46 (dkn dmcX12_instruct (by decide +kernel))
theorem dX12_instruct_86 : decode cX12_instruct 86 = .ok (.iconst 4, 1) := dk_7 (dkn dmcX12_instruct (by decide +kernel))
theorem dX12_instruct_87 : decode cX12_instruct 87 = .ok (.invokestatic 204, 3) := dk_184 (a := 0) (b := 204) (dkn dmcX12_instruct (by decide +kernel)) rfl
theorem dX12_instruct_90 : decode cX12_instruct 90 = .ok (.baload, 1) := dk_51 (dkn dmcX12_instruct (by decide +kernel))
theorem dX12_instruct_91 : decode cX12_instruct 91 = .ok (.ifCond .eq 7, 3) := dk_153 (a := 0) (b := 7) (dkn dmcX12_instruct (by decide +kernel)) rfl
theorem dX12_instruct_94 : decode cX12_instruct 94 = .ok (.iconst 5, 1) := dk_8 (dkn dmcX12_instruct (by decide +kernel))
theorem dX12_instruct_95 : decode cX12_instruct 95 = .ok (.goto 7, 3) := dk_167 (a := 0) (b := 7) (dkn dmcX12_instruct (by decide +kernel)) rfl
theorem dX12_instruct_98 : decode cX12_instruct 98 = .ok (.aload_n 0, 1) := dk_42 (dkn dmcX12_instruct (by decide +kernel))
theorem dX12_instruct_99 : decode cX12_instruct 99 = .ok (.getfield 194, 3) := dk_180 (a := 0) (b := 194) (dkn dmcX12_instruct (by decide +kernel)) rfl
theorem dX12_instruct_102 : decode cX12_instruct 102 = .ok (.putfield 194, 3) := dk_181 (a := 0) (b := 194) (dkn dmcX12_instruct (by decide +kernel)) rfl
theorem dX12_instruct_105 : decode cX12_instruct 105 = .ok (.aload_n 0, 1) := dk_42 (dkn dmcX12_instruct (by decide +kernel))
theorem dX12_instruct_106 : decode cX12_instruct 106 = .ok (.getfield 194, 3) := dk_180 (a := 0) (b := 194) (dkn dmcX12_instruct (by decide +kernel)) rfl
theorem dX12_instruct_109 : decode cX12_instruct 109 = .ok (.ifCond .le 4, 3) := dk_158 (a := 0) (b := 4) (dkn dmcX12_instruct (by decide +kernel)) rfl
theorem dX12_instruct_112 : decode cX12_instruct 112 = .ok (.return_, 1) := dk_177 (dkn dmcX12_instruct (by decide +kernel))
theorem dX12_instruct_113 : decode cX12_instruct 113 = .ok (.aload_n 0, 1) := dk_42 (dkn dmcX12_instruct (by decide +kernel))
theorem dX12_instruct_114 : decode cX12_instruct 114 = .ok (.getfield 13, 3) := dk_180 (a := 0) (b := 13) (dkn dmcX12_instruct (by decide +kernel)) rfl
theorem dX12_instruct_117 : decode cX12_instruct 117 = .ok (.iload_n 2, 1) := dk_28 (dkn dmcX12_instruct (by decide +kernel))
theorem dX12_instruct_118 : decode cX12_instruct 118 = .ok (.iaload, 1) := dk_46 (dkn dmcX12_instruct (by decide +kernel))
theorem dX12_instruct_119 : decode cX12_instruct 119 = .ok (.bipush 6, 2) := dk_16 (a := 6) (dkn dmcX12_instruct (by decide +kernel)) rfl
theorem dX12_instruct_121 : decode cX12_instruct 121 = .ok (.if_icmp .eq 23, 3) := dk_159 (a := 0) (b := 23) (dkn dmcX12_instruct (by decide +kernel)) rfl
theorem dX12_instruct_124 : decode cX12_instruct 124 = .ok (.aload_n 0, 1) := dk_42 (dkn dmcX12_instruct (by decide +kernel))
theorem dX12_instruct_125 : decode cX12_instruct 125 = .ok (.getfield 13, 3) := dk_180 (a := 0) (b := 13) (dkn dmcX12_instruct (by decide +kernel)) rfl
theorem dX12_instruct_128 : decode cX12_instruct 128 = .ok (.iload_n 2, 1) := dk_28 (dkn dmcX12_instruct (by decide +kernel))
theorem dX12_instruct_129 : decode cX12_instruct 129 = .ok (.iaload, 1) := dk_46 (dkn dmcX12_instruct (by decide +kernel))
theorem dX12_instruct_130 : decode cX12_instruct 130 = .ok (.bipush 7, 2) := dk_16 (a := 7) (dkn dmcX12_instruct (by decide +kernel)) rfl
theorem dX12_instruct_132 : decode cX12_instruct 132 = .ok (.if_icmp .ne 16, 3) := dk_160 (a := 0) (b := 16) (dkn dmcX12_instruct (by decide +kernel)) rfl
theorem dX12_instruct_135 : decode cX12_instruct 135 = .ok (.aload_n 0, 1) := dk_42 (dkn dmcX12_instruct (by decide +kernel))
theorem dX12_instruct_136 : decode cX12_instruct 136 = .ok (.getfield 40, 3) := dk_180 (a := 0) (b := 40) (dkn dmcX12_instruct (by decide +kernel)) rfl
theorem dX12_instruct_139 : decode cX12_instruct 139 = .ok (.iload_n 3, 1) := dk_29 (dkn dmcX12_instruct (by decide +kernel))
theorem dX12_instruct_140 : decode cX12_instruct 140 = .ok (.iaload, 1) := dk_46 (dkn dmcX12_instruct (by decide +kernel))
theorem dX12_instruct_141 : decode cX12_instruct 141 = .ok (.ifCond .ne 7, 3) := dk_154 (a := 0) (b := 7) (dkn dmcX12_instruct (by decide +kernel)) rfl
theorem dX12_instruct_144 : decode cX12_instruct 144 = .ok (.iconst 1, 1) := dk_4 (dkn dmcX12_instruct (by decide +kernel))
theorem dX12_instruct_145 : decode cX12_instruct 145 = .ok (.goto 4, 3) := dk_167 (a := 0) (b := 4) (dkn dmcX12_instruct (by decide +kernel)) rfl
theorem dX12_instruct_148 : decode cX12_instruct 148 = .ok (.iconst 0, 1) := dk_3 (dkn dmcX12_instruct (by decide +kernel))
theorem dX12_instruct_149 : decode cX12_instruct 149 = .ok (.istore 6, 2) := dk_54 (dkn dmcX12_instruct (by decide +kernel))
theorem dX12_instruct_151 : decode cX12_instruct 151 = .ok (.aload_n 0, 1) := dk_42 (dkn dmcX12_instruct (by decide +kernel))
theorem dX12_instruct_152 : decode cX12_instruct 152 = .ok (.getfield 13, 3) := dk_180 (a := 0) (b := 13) (dkn dmcX12_instruct (by decide +kernel)) rfl
theorem dX12_instruct_155 : decode cX12_instruct 155 = .ok (.iload_n 2, 1) := dk_28 (dkn dmcX12_instruct (by decide +kernel))
theorem dX12_instruct_156 : decode cX12_instruct 156 = .ok (.iaload, 1) := dk_46 (dkn dmcX12_instruct (by decide +kernel))
theorem dX12_instruct_157 : decode cX12_instruct 157 = .ok (.bipush 6, 2) := dk_16 (a := 6) (dkn dmcX12_instruct (by decide +kernel)) rfl
theorem dX12_instruct_159 : decode cX12_instruct 159 = .ok (.if_icmp .ne 12, 3) := dk_160 (a := 0) (b := 12) (dkn dmcX12_instruct (by decide +kernel)) rfl
theorem dX12_instruct_162 : decode cX12_instruct 162 = .ok (.aload_n 0, 1) := dk_42 (dkn dmcX12_instruct (by decide +kernel))
theorem dX12_instruct_163 : decode cX12_instruct 163 = .ok (.getfield 16, 3) := dk_180 (a := 0) (b := 16) (dkn dmcX12_instruct (by decide +kernel)) rfl
theorem dX12_instruct_166 : decode cX12_instruct 166 = .ok (.iload_n 2, 1) := dk_28 (dkn dmcX12_instruct (by decide +kernel))
theorem dX12_instruct_167 : decode cX12_instruct 167 = .ok (.iaload, 1) := dk_46 (dkn dmcX12_instruct (by decide +kernel))
theorem dX12_instruct_168 : decode cX12_instruct 168 = .ok (.goto 9, 3) := dk_167 (a := 0) (b := 9) (dkn dmcX12_instruct (by decide +kernel)) rfl
theorem dX12_instruct_171 : decode cX12_instruct 171 = .ok (.aload_n 0, 1) := dk_42 (dkn dmcX12_instruct (by decide +kernel))
theorem dX12_instruct_172 : decode cX12_instruct 172 = .ok (.getfield 19, 3) := dk_180 (a := 0) (b := 19) (dkn dmcX12_instruct (by decide +kernel)) rfl
theorem dX12_instruct_175 : decode cX12_instruct 175 = .ok (.iload_n 2, 1) := dk_28 (dkn dmcX12_instruct (by decide +kernel))
theorem dX12_instruct_176 : decode cX12_instruct 176 = .ok (.iaload, 1) := dk_46 (dkn dmcX12_instruct (by decide +kernel))
theorem dX12_instruct_177 : decode cX12_instruct 177 = .ok (.istore 7, 2) := dk_54 (dkn dmcX12_instruct (by decide +kernel))
theorem dX12_instruct_179 : decode cX12_instruct 179 = .ok (.aload_n 0, 1) := dk_42 (dkn dmcX12_instruct (by decide +kernel))
theorem dX12_instruct_180 : decode cX12_instruct 180 = .ok (.iload_n 1, 1) := dk_27 (dkn dmcX12_instruct (by decide +kernel))
theorem dX12_instruct_181 : decode cX12_instruct 181 = .ok (.aload_n 0, 1) := dk_42 (dkn dmcX12_instruct (by decide +kernel))
theorem dX12_instruct_182 : decode cX12_instruct 182 = .ok (.getfield 13, 3) := dk_180 (a := 0) (b := 13) (dkn dmcX12_instruct (by decide +kernel)) rfl
theorem dX12_instruct_185 : decode cX12_instruct 185 = .ok (.iload_n 2, 1) := dk_28 (dkn dmcX12_instruct (by decide +kernel))
theorem dX12_instruct_186 : decode cX12_instruct 186 = .ok (.iaload, 1) := dk_46 (dkn dmcX12_instruct (by decide +kernel))
theorem dX12_instruct_187 : decode cX12_instruct 187 = .ok (.iload_n 3, 1) := dk_29 (dkn dmcX12_instruct (by decide +kernel))
theorem dX12_instruct_188 : decode cX12_instruct 188 = .ok (.iload 4, 2) := dk_21 (dkn dmcX12_instruct (by decide +kernel))
theorem dX12_instruct_190 : decode cX12_instruct 190 = .ok (.iload 5, 2) := dk_21 (dkn dmcX12_instruct (by decide +kernel))
theorem dX12_instruct_192 : decode cX12_instruct 192 = .ok (.invokevirtual 260, 3) := dk_182 (a := 1) (b := 4) (dkn dmcX12_instruct (by decide +kernel)) rfl
theorem dX12_instruct_195 : decode cX12_instruct 195 = .ok (.aload_n 0, 1) := dk_42 (dkn dmcX12_instruct (by decide +kernel))
theorem dX12_instruct_196 : decode cX12_instruct 196 = .ok (.iload_n 1, 1) := dk_27 (dkn dmcX12_instruct (by decide +kernel))
theorem dX12_instruct_197 : decode cX12_instruct 197 = .ok (.iload_n 2, 1) := dk_28 (dkn dmcX12_instruct (by decide +kernel))
theorem dX12_instruct_198 : decode cX12_instruct 198 = .ok (.iload_n 3, 1) := dk_29 (dkn dmcX12_instruct (by decide +kernel))
theorem dX12_instruct_199 : decode cX12_instruct 199 = .ok (.iload 4, 2) := dk_21 (dkn dmcX12_instruct (by decide +kernel))
theorem dX12_instruct_201 : decode cX12_instruct 201 = .ok (.invokevirtual 264, 3) := dk_182 (a := 1) (b := 8) (dkn dmcX12_instruct (by decide +kernel)) rfl
theorem dX12_instruct_204 : decode cX12_instruct 204 = .ok (.aload_n 0, 1) := dk_42 (dkn dmcX12_instruct (by decide +kernel))
theorem dX12_instruct_205 : decode cX12_instruct 205 = .ok (.getfield 13, 3) := dk_180 (a := 0) (b := 13) (dkn dmcX12_instruct (by decide +kernel)) rfl
theorem dX12_instruct_208 : decode cX12_instruct 208 = .ok (.iload_n 2, 1) := dk_28 (dkn dmcX12_instruct (by decide +kernel))
theorem dX12_instruct_209 : decode cX12_instruct 209 = .ok (.iaload, 1) := dk_46 (dkn dmcX12_instruct (by decide +kernel))
theorem dX12_instruct_210 : decode cX12_instruct 210 = .ok (.bipush 14, 2) := dk_16 (a := 14) (dkn dmcX12_instruct (by decide +kernel)) rfl
theorem dX12_instruct_212 : decode cX12_instruct 212 = .ok (.if_icmp .eq 42, 3) := dk_159 (a := 0) (b := 42) (dkn dmcX12_instruct (by decide +kernel)) rfl
theorem dX12_instruct_215 : decode cX12_instruct 215 = .ok (.aload_n 0, 1) := dk_42 (dkn dmcX12_instruct (by decide +kernel))
theorem dX12_instruct_216 : decode cX12_instruct 216 = .ok (.iload_n 1, 1) := dk_27 (dkn dmcX12_instruct (by decide +kernel))
theorem dX12_instruct_217 : decode cX12_instruct 217 = .ok (.aload_n 0, 1) := dk_42 (dkn dmcX12_instruct (by decide +kernel))
theorem dX12_instruct_218 : decode cX12_instruct 218 = .ok (.getfield 13, 3) := dk_180 (a := 0) (b := 13) (dkn dmcX12_instruct (by decide +kernel)) rfl
theorem dX12_instruct_221 : decode cX12_instruct 221 = .ok (.iload_n 2, 1) := dk_28 (dkn dmcX12_instruct (by decide +kernel))
theorem dX12_instruct_222 : decode cX12_instruct 222 = .ok (.iaload, 1) := dk_46 (dkn dmcX12_instruct (by decide +kernel))
theorem dX12_instruct_223 : decode cX12_instruct 223 = .ok (.bipush 19, 2) := dk_16 (a := 19) (dkn dmcX12_instruct (by decide +kernel)) rfl
theorem dX12_instruct_225 : decode cX12_instruct 225 = .ok (.if_icmp .ne 8, 3) := dk_160 (a := 0) (b := 8) (dkn dmcX12_instruct (by decide +kernel)) rfl
theorem dX12_instruct_228 : decode cX12_instruct 228 = .ok (.bipush 24, 2) := dk_16 (a := 24) (dkn dmcX12_instruct (by decide +kernel)) rfl
theorem dX12_instruct_230 : decode cX12_instruct 230 = .ok (.goto 21, 3) := dk_167 (a := 0) (b := 21) (dkn dmcX12_instruct (by decide +kernel)) rfl
theorem dX12_instruct_233 : decode cX12_instruct 233 = .ok (.iload 6, 2) := dk_21 (dkn dmcX12_instruct (by decide +kernel))
theorem dX12_instruct_235 : decode cX12_instruct 235 = .ok (.ifCond .eq 8, 3) := dk_153 (a := 0) (b := 8) (dkn dmcX12_instruct (by decide +kernel)) rfl
theorem dX12_instruct_238 : decode cX12_instruct 238 = .ok (.iload 7, 2) := dk_21 (dkn dmcX12_instruct (by decide +kernel))
theorem dX12_instruct_240 : decode cX12_instruct 240 = .ok (.goto 11, 3) := dk_167 (a := 0) (b := 11) (dkn dmcX12_instruct (by decide +kernel)) rfl
theorem dX12_instruct_243 : decode cX12_instruct 243 = .ok (.aload_n 0, 1) := dk_42 (dkn dmcX12_instruct (by decide +kernel))
theorem dX12_instruct_244 : decode cX12_instruct 244 = .ok (.getfield 43, 3) := dk_180 (a := 0) (b := 43) (dkn dmcX12_instruct (by decide +kernel)) rfl
theorem dX12_instruct_247 : decode cX12_instruct 247 = .ok (.iload_n 1, 1) := dk_27 (dkn dmcX12_instruct (by decide +kernel))
theorem dX12_instruct_248 : decode cX12_instruct 248 = .ok (.iaload, 1) := dk_46 (dkn dmcX12_instruct (by decide +kernel))
theorem dX12_instruct_249 : decode cX12_instruct 249 = .ok (.iconst 1, 1) := dk_4 (dkn dmcX12_instruct (by decide +kernel))
theorem dX12_instruct_250 : decode cX12_instruct 250 = .ok (.iadd, 1) := dk_96 (dkn dmcX12_instruct (by decide +kernel))
theorem dX12_instruct_251 : decode cX12_instruct 251 = .ok (.invokevirtual 246, 3) := dk_182 (a := 0) (b := 246) (dkn dmcX12_instruct (by decide +kernel)) rfl
theorem dX12_instruct_254 : decode cX12_instruct 254 = .ok (.return_, 1) := dk_177 (dkn dmcX12_instruct (by decide +kernel))
def dncX12_free : Nat := 0xac02eeffa7010284ac1c050099d700b61c2a1300a2071c3d03ac1b050099d700b61b2a
theorem dmcX12_free : dkc dncX12_free 35 cX12_free.data.toList 0 = true := by decide +kernel
theorem dX12_free_0 : decode cX12_free 0 = .ok (.aload_n 0, 1) := dk_42 (dkn dmcX12_free (by decide +kernel))
theorem dX12_free_1 : decode cX12_free 1 = .ok (.iload_n 1, 1) := dk_27 (dkn dmcX12_free (by decide +kernel))
theorem dX12_free_2 : decode cX12_free 2 = .ok (.invokevirtual 215, 3) := dk_182 (a := 0) (b := 215) (dkn dmcX12_free (by decide +kernel)) rfl
theorem dX12_free_5 : decode cX12_free 5 = .ok (.ifCond .eq 5, 3) := dk_153 (a := 0) (b := 5) (dkn dmcX12_free (by decide +kernel)) rfl
theorem dX12_free_8 : decode cX12_free 8 = .ok (.iload_n 1, 1) := dk_27 (dkn dmcX12_free (by decide +kernel))
theorem dX12_free_9 : decode cX12_free 9 = .ok (.ireturn, 1) := dk_172 (dkn dmcX12_free (by decide +kernel))
theorem dX12_free_10 : decode cX12_free 10 = .ok (.iconst 0, 1) := dk_3 (dkn dmcX12_free (by decide +kernel))
theorem dX12_free_11 : decode cX12_free 11 = .ok (.istore_n 2, 1) := dk_61 (dkn dmcX12_free (by decide +kernel))
theorem dX12_free_12 : decode cX12_free 12 = .ok (.iload_n 2, 1) := dk_28 (dkn dmcX12_free (by decide +kernel))
theorem dX12_free_13 : decode cX12_free 13 = .ok (.iconst 4, 1) := dk_7 (dkn dmcX12_free (by decide +kernel))
theorem dX12_free_14 : decode cX12_free 14 = .ok (.if_icmp .ge 19, 3) := dk_162 (a := 0) (b := 19) (dkn dmcX12_free (by decide +kernel)) rfl
theorem dX12_free_17 : decode cX12_free 17 = .ok (.aload_n 0, 1) := dk_42 (dkn dmcX12_free (by decide +kernel))
theorem dX12_free_18 : decode cX12_free 18 = .ok (.iload_n 2, 1) := dk_28 (dkn dmcX12_free (by decide +kernel))
theorem dX12_free_19 : decode cX12_free 19 = .ok (.invokevirtual 215, 3) := dk_182 (a := 0) (b := 215) (dkn dmcX12_free (by decide +kernel)) rfl
theorem dX12_free_22 : decode cX12_free 22 = .ok (.ifCond .eq 5, 3) := dk_153 (a := 0) (b := 5) (dkn dmcX12_free (by decide +kernel)) rfl
theorem dX12_free_25 : decode cX12_free 25 = .ok (.iload_n 2, 1) := dk_28 (dkn dmcX12_free (by decide +kernel))
theorem dX12_free_26 : decode cX12_free 26 = .ok (.ireturn, 1) := dk_172 (dkn dmcX12_free (by decide +kernel))
theorem dX12_free_27 : decode cX12_free 27 = .ok (.iinc 2 1, 3) := dk_132 (b := 1) (dkn dmcX12_free (by decide +kernel)) rfl
theorem dX12_free_30 : decode cX12_free 30 = .ok (.goto (-18), 3) := dk_167 (a := 255) (b := 238) (dkn dmcX12_free (by decide +kernel)) rfl
theorem dX12_free_33 : decode cX12_free 33 = .ok (.iconst (-1), 1) := dk_2 (dkn dmcX12_free (by decide +kernel))
theorem dX12_free_34 : decode cX12_free 34 = .ok (.ireturn, 1) := dk_172 (dkn dmcX12_free (by decide +kernel))
def dncX12_keep : Nat := 0xb1e0ffa70102844f2e1c4100b42a601c681bc000115d00b42a1b00a268b900b42a10101c3d03c2ffa70102844f2e1c3e00b42a601c681b0c105900b42a4f2e1c3b00b42a601c681b0c105600b42a4f2e1c3800b42a601c681b0c105300b42a3c00a2b900b42a1c3d034fb900b42a1b5000b42ad9ffa70102844f0c01b61c2a601c681b074d00b42a4f2e1c2b00b42a601c681b074a00b42a2800a2071c3d03d5ffa70102844f2e1c2800b42a601c681b1c104700b42a4f2e1c2500b42a601c681b1c104400b42a2b00a21c101c3d03
theorem dmcX12_keep : dkc dncX12_keep 207 cX12_keep.data.toList 0 = true := by decide +kernel
theorem dX12_keep_0 : decode cX12_keep 0 = .ok (.iconst 0, 1) := dk_3 (dkn dmcX12_keep (by decide +kernel))
theorem dX12_keep_1 : decode cX12_keep 1 = .ok (.istore_n 2, 1) := dk_61 (dkn dmcX12_keep (by decide +kernel))
theorem dX12_keep_2 : decode cX12_keep 2 = .ok (.iload_n 2, 1) := dk_28 (dkn dmcX12_keep (by decide +kernel))
theorem dX12_keep_3 : decode cX12_keep 3 = .ok (.bipush 28, 2) := dk_16 (a := 28) (dkn dmcX12_keep (by decide +kernel)) rfl
theorem dX12_keep_5 : decode cX12_keep 5 = .ok (.if_icmp .ge 43, 3) := dk_162 (a := 0) (b := 43) (dkn dmcX12_keep (by decide +kernel)) rfl
theorem dX12_keep_8 : decode cX12_keep 8 = .ok (.aload_n 0, 1) := dk_42 (dkn dmcX12_keep (by decide +kernel))
theorem dX12_keep_9 : decode cX12_keep 9 = .ok (.getfield 68, 3) := dk_180 (a := 0) (b := 68) (dkn dmcX12_keep (by decide +kernel)) rfl
theorem dX12_keep_12 : decode cX12_keep 12 = .ok (.bipush 28, 2) := dk_16 (a := 28) (dkn dmcX12_keep (by decide +kernel)) rfl
theorem dX12_keep_14 : decode cX12_keep 14 = .ok (.iload_n 1, 1) := dk_27 (dkn dmcX12_keep (by decide +kernel))
theorem dX12_keep_15 : decode cX12_keep 15 = .ok (.imul, 1) := dk_104 (dkn dmcX12_keep (by decide +kernel))
theorem dX12_keep_16 : decode cX12_keep 16 = .ok (.iload_n 2, 1) := dk_28 (dkn dmcX12_keep (by decide +kernel))
theorem dX12_keep_17 : decode cX12_keep 17 = .ok (.iadd, 1) := dk_96 (dkn dmcX12_keep (by decide +kernel))
theorem dX12_keep_18 : decode cX12_keep 18 = .ok (.aload_n 0, 1) := dk_42 (dkn dmcX12_keep (by decide +kernel))
theorem dX12_keep_19 : decode cX12_keep 19 = .ok (.getfield 37, 3) := dk_180 (a := 0) (b := 37) (dkn dmcX12_keep (by decide +kernel)) rfl
theorem dX12_keep_22 : decode cX12_keep 22 = .ok (.iload_n 2, 1) := dk_28 (dkn dmcX12_keep (by decide +kernel))
theorem dX12_keep_23 : decode cX12_keep 23 = .ok (.iaload, 1) := dk_46 (dkn dmcX12_keep (by decide +kernel))
theorem dX12_keep_24 : decode cX12_keep 24 = .ok (.iastore, 1) := dk_79 (dkn dmcX12_keep (by decide +kernel))
theorem dX12_keep_25 : decode cX12_keep 25 = .ok (.aload_n 0, 1) := dk_42 (dkn dmcX12_keep (by decide +kernel))
theorem dX12_keep_26 : decode cX12_keep 26 = .ok (.getfield 71, 3) := dk_180 (a := 0) (b := 71) (dkn dmcX12_keep (by decide +kernel)) rfl
theorem dX12_keep_29 : decode cX12_keep 29 = .ok (.bipush 28, 2) := dk_16 (a := 28) (dkn dmcX12_keep (by decide +kernel)) rfl
theorem dX12_keep_31 : decode cX12_keep 31 = .ok (.iload_n 1, 1) := dk_27 (dkn dmcX12_keep (by decide +kernel))
theorem dX12_keep_32 : decode cX12_keep 32 = .ok (.imul, 1) := dk_104 (dkn dmcX12_keep (by decide +kernel))
theorem dX12_keep_33 : decode cX12_keep 33 = .ok (.iload_n 2, 1) := dk_28 (dkn dmcX12_keep (by decide +kernel))
theorem dX12_keep_34 : decode cX12_keep 34 = .ok (.iadd, 1) := dk_96 (dkn dmcX12_keep (by decide +kernel))
theorem dX12_keep_35 : decode cX12_keep 35 = .ok (.aload_n 0, 1) := dk_42 (dkn dmcX12_keep (by decide +kernel))
theorem dX12_keep_36 : decode cX12_keep 36 = .ok (.getfield 40, 3) := dk_180 (a := 0) (b := 40) (dkn dmcX12_keep (by decide +kernel)) rfl
theorem dX12_keep_39 : decode cX12_keep 39 = .ok (.iload_n 2, 1) := dk_28 (dkn dmcX12_keep (by decide +kernel))
theorem dX12_keep_40 : decode cX12_keep 40 = .ok (.iaload, 1) := dk_46 (dkn dmcX12_keep (by decide +kernel))
theorem dX12_keep_41 : decode cX12_keep 41 = .ok (.iastore, 1) := dk_79 (dkn dmcX12_keep (by decide +kernel))
theorem dX12_keep_42 : decode cX12_keep 42 = .ok (.iinc 2 1, 3) := dk_132 (b := 1) (dkn dmcX12_keep (by decide +kernel)) rfl
theorem dX12_keep_45 : decode cX12_keep 45 = .ok (.goto (-43), 3) := dk_167 (a := 255) (b := 213) (dkn dmcX12_keep (by decide +kernel)) rfl
theorem dX12_keep_48 : decode cX12_keep 48 = .ok (.iconst 0, 1) := dk_3 (dkn dmcX12_keep (by decide +kernel))
theorem dX12_keep_49 : decode cX12_keep 49 = .ok (.istore_n 2, 1) := dk_61 (dkn dmcX12_keep (by decide +kernel))
theorem dX12_keep_50 : decode cX12_keep 50 = .ok (.iload_n 2, 1) := dk_28 (dkn dmcX12_keep (by decide +kernel))
theorem dX12_keep_51 : decode cX12_keep 51 = .ok (.iconst 4, 1) := dk_7 (dkn dmcX12_keep (by decide +kernel))
theorem dX12_keep_52 : decode cX12_keep 52 = .ok (.if_icmp .ge 40, 3) := dk_162 (a := 0) (b := 40) (dkn dmcX12_keep (by decide +kernel)) rfl
theorem dX12_keep_55 : decode cX12_keep 55 = .ok (.aload_n 0, 1) := dk_42 (dkn dmcX12_keep (by decide +kernel))
theorem dX12_keep_56 : decode cX12_keep 56 = .ok (.getfield 74, 3) := dk_180 (a := 0) (b := 74) (dkn dmcX12_keep (by decide +kernel)) rfl
theorem dX12_keep_59 : decode cX12_keep 59 = .ok (.iconst 4, 1) := dk_7 (dkn dmcX12_keep (by decide +kernel))
theorem dX12_keep_60 : decode cX12_keep 60 = .ok (.iload_n 1, 1) := dk_27 (dkn dmcX12_keep (by decide +kernel))
theorem dX12_keep_61 : decode cX12_keep 61 = .ok (.imul, 1) := dk_104 (dkn dmcX12_keep (by decide +kernel))
theorem dX12_keep_62 : decode cX12_keep 62 = .ok (.iload_n 2, 1) := dk_28 (dkn dmcX12_keep (by decide +kernel))
theorem dX12_keep_63 : decode cX12_keep 63 = .ok (.iadd, 1) := dk_96 (dkn dmcX12_keep (by decide +kernel))
theorem dX12_keep_64 : decode cX12_keep 64 = .ok (.aload_n 0, 1) := dk_42 (dkn dmcX12_keep (by decide +kernel))
theorem dX12_keep_65 : decode cX12_keep 65 = .ok (.getfield 43, 3) := dk_180 (a := 0) (b := 43) (dkn dmcX12_keep (by decide +kernel)) rfl
theorem dX12_keep_68 : decode cX12_keep 68 = .ok (.iload_n 2, 1) := dk_28 (dkn dmcX12_keep (by decide +kernel))
theorem dX12_keep_69 : decode cX12_keep 69 = .ok (.iaload, 1) := dk_46 (dkn dmcX12_keep (by decide +kernel))
theorem dX12_keep_70 : decode cX12_keep 70 = .ok (.iastore, 1) := dk_79 (dkn dmcX12_keep (by decide +kernel))
theorem dX12_keep_71 : decode cX12_keep 71 = .ok (.aload_n 0, 1) := dk_42 (dkn dmcX12_keep (by decide +kernel))
theorem dX12_keep_72 : decode cX12_keep 72 = .ok (.getfield 77, 3) := dk_180 (a := 0) (b := 77) (dkn dmcX12_keep (by decide +kernel)) rfl
theorem dX12_keep_75 : decode cX12_keep 75 = .ok (.iconst 4, 1) := dk_7 (dkn dmcX12_keep (by decide +kernel))
theorem dX12_keep_76 : decode cX12_keep 76 = .ok (.iload_n 1, 1) := dk_27 (dkn dmcX12_keep (by decide +kernel))
theorem dX12_keep_77 : decode cX12_keep 77 = .ok (.imul, 1) := dk_104 (dkn dmcX12_keep (by decide +kernel))
theorem dX12_keep_78 : decode cX12_keep 78 = .ok (.iload_n 2, 1) := dk_28 (dkn dmcX12_keep (by decide +kernel))
theorem dX12_keep_79 : decode cX12_keep 79 = .ok (.iadd, 1) := dk_96 (dkn dmcX12_keep (by decide +kernel))
theorem dX12_keep_80 : decode cX12_keep 80 = .ok (.aload_n 0, 1) := dk_42 (dkn dmcX12_keep (by decide +kernel))
theorem dX12_keep_81 : decode cX12_keep 81 = .ok (.iload_n 2, 1) := dk_28 (dkn dmcX12_keep (by decide +kernel))
theorem dX12_keep_82 : decode cX12_keep 82 = .ok (.invokevirtual 268, 3) := dk_182 (a := 1) (b := 12) (dkn dmcX12_keep (by decide +kernel)) rfl
theorem dX12_keep_85 : decode cX12_keep 85 = .ok (.iastore, 1) := dk_79 (dkn dmcX12_keep (by decide +kernel))
theorem dX12_keep_86 : decode cX12_keep 86 = .ok (.iinc 2 1, 3) := dk_132 (b := 1) (dkn dmcX12_keep (by decide +kernel)) rfl
theorem dX12_keep_89 : decode cX12_keep 89 = .ok (.goto (-39), 3) := dk_167 (a := 255) (b := 217) (dkn dmcX12_keep (by decide +kernel)) rfl
theorem dX12_keep_92 : decode cX12_keep 92 = .ok (.aload_n 0, 1) := dk_42 (dkn dmcX12_keep (by decide +kernel))
theorem dX12_keep_93 : decode cX12_keep 93 = .ok (.getfield 80, 3) := dk_180 (a := 0) (b := 80) (dkn dmcX12_keep (by decide +kernel)) rfl
theorem dX12_keep_96 : decode cX12_keep 96 = .ok (.iload_n 1, 1) := dk_27 (dkn dmcX12_keep (by decide +kernel))
end MG_07_mdec0
section MG_07_mdec1
theorem dX12_keep_97 : decode cX12_keep 97 = .ok (.aload_n 0, 1) := dk_42 (dkn dmcX12_keep (by decide +kernel))
theorem dX12_keep_98 : decode cX12_keep 98 = .ok (.getfield 185, 3) := dk_180 (a := 0) (b := 185) (dkn dmcX12_keep (by decide +kernel)) rfl
theorem dX12_keep_101 : decode cX12_keep 101 = .ok (.iastore, 1) := dk_79 (dkn dmcX12_keep (by decide +kernel))
theorem dX12_keep_102 : decode cX12_keep 102 = .ok (.iconst 0, 1) := dk_3 (dkn dmcX12_keep (by decide +kernel))
theorem dX12_keep_103 : decode cX12_keep 103 = .ok (.istore_n 2, 1) := dk_61 (dkn dmcX12_keep (by decide +kernel))
theorem dX12_keep_104 : decode cX12_keep 104 = .ok (.iload_n 2, 1) := dk_28 (dkn dmcX12_keep (by decide +kernel))
theorem dX12_keep_105 : decode cX12_keep 105 = .ok (.aload_n 0, 1) := dk_42 (dkn dmcX12_keep (by decide +kernel))
theorem dX12_keep_106 : decode cX12_keep 106 = .ok (.getfield 185, 3) := dk_180 (a := 0) (b := 185) (dkn dmcX12_keep (by decide +kernel)) rfl
theorem dX12_keep_109 : decode cX12_keep 109 = .ok (.if_icmp .ge 60, 3) := dk_162 (a := 0) (b := 60) (dkn dmcX12_keep (by decide +kernel)) rfl
theorem dX12_keep_112 : decode cX12_keep 112 = .ok (.aload_n 0, 1) := dk_42 (dkn dmcX12_keep (by decide +kernel))
theorem dX12_keep_113 : decode cX12_keep 113 = .ok (.getfield 83, 3) := dk_180 (a := 0) (b := 83) (dkn dmcX12_keep (by decide +kernel)) rfl
theorem dX12_keep_116 : decode cX12_keep 116 = .ok (.bipush 12, 2) := dk_16 (a := 12) (dkn dmcX12_keep (by decide +kernel)) rfl
theorem dX12_keep_118 : decode cX12_keep 118 = .ok (.iload_n 1, 1) := dk_27 (dkn dmcX12_keep (by decide +kernel))
theorem dX12_keep_119 : decode cX12_keep 119 = .ok (.imul, 1) := dk_104 (dkn dmcX12_keep (by decide +kernel))
theorem dX12_keep_120 : decode cX12_keep 120 = .ok (.iload_n 2, 1) := dk_28 (dkn dmcX12_keep (by decide +kernel))
theorem dX12_keep_121 : decode cX12_keep 121 = .ok (.iadd, 1) := dk_96 (dkn dmcX12_keep (by decide +kernel))
theorem dX12_keep_122 : decode cX12_keep 122 = .ok (.aload_n 0, 1) := dk_42 (dkn dmcX12_keep (by decide +kernel))
theorem dX12_keep_123 : decode cX12_keep 123 = .ok (.getfield 56, 3) := dk_180 (a := 0) (b := 56) (dkn dmcX12_keep (by decide +kernel)) rfl
theorem dX12_keep_126 : decode cX12_keep 126 = .ok (.iload_n 2, 1) := dk_28 (dkn dmcX12_keep (by decide +kernel))
theorem dX12_keep_127 : decode cX12_keep 127 = .ok (.iaload, 1) := dk_46 (dkn dmcX12_keep (by decide +kernel))
theorem dX12_keep_128 : decode cX12_keep 128 = .ok (.iastore, 1) := dk_79 (dkn dmcX12_keep (by decide +kernel))
theorem dX12_keep_129 : decode cX12_keep 129 = .ok (.aload_n 0, 1) := dk_42 (dkn dmcX12_keep (by decide +kernel))
theorem dX12_keep_130 : decode cX12_keep 130 = .ok (.getfield 86, 3) := dk_180 (a := 0) (b := 86) (dkn dmcX12_keep (by decide +kernel)) rfl
theorem dX12_keep_133 : decode cX12_keep 133 = .ok (.bipush 12, 2) := dk_16 (a := 12) (dkn dmcX12_keep (by decide +kernel)) rfl
theorem dX12_keep_135 : decode cX12_keep 135 = .ok (.iload_n 1, 1) := dk_27 (dkn dmcX12_keep (by decide +kernel))
theorem dX12_keep_136 : decode cX12_keep 136 = .ok (.imul, 1) := dk_104 (dkn dmcX12_keep (by decide +kernel))
theorem dX12_keep_137 : decode cX12_keep 137 = .ok (.iload_n 2, 1) := dk_28 (dkn dmcX12_keep (by decide +kernel))
theorem dX12_keep_138 : decode cX12_keep 138 = .ok (.iadd, 1) := dk_96 (dkn dmcX12_keep (by decide +kernel))
theorem dX12_keep_139 : decode cX12_keep 139 = .ok (.aload_n 0, 1) := dk_42 (dkn dmcX12_keep (by decide +kernel))
theorem dX12_keep_140 : decode cX12_keep 140 = .ok (.getfield 59, 3) := dk_180 (a := 0) (b := 59) (dkn dmcX12_keep (by decide +kernel)) rfl
theorem dX12_keep_143 : decode cX12_keep 143 = .ok (.iload_n 2, 1) := dk_28 (dkn dmcX12_keep (by decide +kernel))
theorem dX12_keep_144 : decode cX12_keep 144 = .ok (.iaload, 1) := dk_46 (dkn dmcX12_keep (by decide +kernel))
theorem dX12_keep_145 : decode cX12_keep 145 = .ok (.iastore, 1) := dk_79 (dkn dmcX12_keep (by decide +kernel))
theorem dX12_keep_146 : decode cX12_keep 146 = .ok (.aload_n 0, 1) := dk_42 (dkn dmcX12_keep (by decide +kernel))
theorem dX12_keep_147 : decode cX12_keep 147 = .ok (.getfield 89, 3) := dk_180 (a := 0) (b := 89) (dkn dmcX12_keep (by decide +kernel)) rfl
theorem dX12_keep_150 : decode cX12_keep 150 = .ok (.bipush 12, 2) := dk_16 (a := 12) (dkn dmcX12_keep (by decide +kernel)) rfl
theorem dX12_keep_152 : decode cX12_keep 152 = .ok (.iload_n 1, 1) := dk_27 (dkn dmcX12_keep (by decide +kernel))
theorem dX12_keep_153 : decode cX12_keep 153 = .ok (.imul, 1) := dk_104 (dkn dmcX12_keep (by decide +kernel))
theorem dX12_keep_154 : decode cX12_keep 154 = .ok (.iload_n 2, 1) := dk_28 (dkn dmcX12_keep (by decide +kernel))
theorem dX12_keep_155 : decode cX12_keep 155 = .ok (.iadd, 1) := dk_96 (dkn dmcX12_keep (by decide +kernel))
theorem dX12_keep_156 : decode cX12_keep 156 = .ok (.aload_n 0, 1) := dk_42 (dkn dmcX12_keep (by decide +kernel))
theorem dX12_keep_157 : decode cX12_keep 157 = .ok (.getfield 62, 3) := dk_180 (a := 0) (b := 62) (dkn dmcX12_keep (by decide +kernel)) rfl
theorem dX12_keep_160 : decode cX12_keep 160 = .ok (.iload_n 2, 1) := dk_28 (dkn dmcX12_keep (by decide +kernel))
theorem dX12_keep_161 : decode cX12_keep 161 = .ok (.iaload, 1) := dk_46 (dkn dmcX12_keep (by decide +kernel))
theorem dX12_keep_162 : decode cX12_keep 162 = .ok (.iastore, 1) := dk_79 (dkn dmcX12_keep (by decide +kernel))
theorem dX12_keep_163 : decode cX12_keep 163 = .ok (.iinc 2 1, 3) := dk_132 (b := 1) (dkn dmcX12_keep (by decide +kernel)) rfl
theorem dX12_keep_166 : decode cX12_keep 166 = .ok (.goto (-62), 3) := dk_167 (a := 255) (b := 194) (dkn dmcX12_keep (by decide +kernel)) rfl
theorem dX12_keep_169 : decode cX12_keep 169 = .ok (.iconst 0, 1) := dk_3 (dkn dmcX12_keep (by decide +kernel))
theorem dX12_keep_170 : decode cX12_keep 170 = .ok (.istore_n 2, 1) := dk_61 (dkn dmcX12_keep (by decide +kernel))
theorem dX12_keep_171 : decode cX12_keep 171 = .ok (.iload_n 2, 1) := dk_28 (dkn dmcX12_keep (by decide +kernel))
theorem dX12_keep_172 : decode cX12_keep 172 = .ok (.bipush 16, 2) := dk_16 (a := 16) (dkn dmcX12_keep (by decide +kernel)) rfl
theorem dX12_keep_174 : decode cX12_keep 174 = .ok (.aload_n 0, 1) := dk_42 (dkn dmcX12_keep (by decide +kernel))
theorem dX12_keep_175 : decode cX12_keep 175 = .ok (.getfield 185, 3) := dk_180 (a := 0) (b := 185) (dkn dmcX12_keep (by decide +kernel)) rfl
theorem dX12_keep_178 : decode cX12_keep 178 = .ok (.imul, 1) := dk_104 (dkn dmcX12_keep (by decide +kernel))
theorem dX12_keep_179 : decode cX12_keep 179 = .ok (.if_icmp .ge 27, 3) := dk_162 (a := 0) (b := 27) (dkn dmcX12_keep (by decide +kernel)) rfl
theorem dX12_keep_182 : decode cX12_keep 182 = .ok (.aload_n 0, 1) := dk_42 (dkn dmcX12_keep (by decide +kernel))
theorem dX12_keep_183 : decode cX12_keep 183 = .ok (.getfield 93, 3) := dk_180 (a := 0) (b := 93) (dkn dmcX12_keep (by decide +kernel)) rfl
theorem dX12_keep_186 : decode cX12_keep 186 = .ok (.sipush 192, 3) := dk_17 (a := 0) (b := 192) (dkn dmcX12_keep (by decide +kernel)) rfl
theorem dX12_keep_189 : decode cX12_keep 189 = .ok (.iload_n 1, 1) := dk_27 (dkn dmcX12_keep (by decide +kernel))
theorem dX12_keep_190 : decode cX12_keep 190 = .ok (.imul, 1) := dk_104 (dkn dmcX12_keep (by decide +kernel))
theorem dX12_keep_191 : decode cX12_keep 191 = .ok (.iload_n 2, 1) := dk_28 (dkn dmcX12_keep (by decide +kernel))
theorem dX12_keep_192 : decode cX12_keep 192 = .ok (.iadd, 1) := dk_96 (dkn dmcX12_keep (by decide +kernel))
theorem dX12_keep_193 : decode cX12_keep 193 = .ok (.aload_n 0, 1) := dk_42 (dkn dmcX12_keep (by decide +kernel))
theorem dX12_keep_194 : decode cX12_keep 194 = .ok (.getfield 65, 3) := dk_180 (a := 0) (b := 65) (dkn dmcX12_keep (by decide +kernel)) rfl
theorem dX12_keep_197 : decode cX12_keep 197 = .ok (.iload_n 2, 1) := dk_28 (dkn dmcX12_keep (by decide +kernel))
theorem dX12_keep_198 : decode cX12_keep 198 = .ok (.iaload, 1) := dk_46 (dkn dmcX12_keep (by decide +kernel))
theorem dX12_keep_199 : decode cX12_keep 199 = .ok (.iastore, 1) := dk_79 (dkn dmcX12_keep (by decide +kernel))
theorem dX12_keep_200 : decode cX12_keep 200 = .ok (.iinc 2 1, 3) := dk_132 (b := 1) (dkn dmcX12_keep (by decide +kernel)) rfl
theorem dX12_keep_203 : decode cX12_keep 203 = .ok (.goto (-32), 3) := dk_167 (a := 255) (b := 224) (dkn dmcX12_keep (by decide +kernel)) rfl
theorem dX12_keep_206 : decode cX12_keep 206 = .ok (.return_, 1) := dk_177 (dkn dmcX12_keep (by decide +kernel))
def dncX12_stepKept : Nat := 0xb11701b6bf00b42a2a4fed00b42abf00b42a7200b42a4fea00b42a0700a70307009ec200b42abf00b42a6f00b42a4fe700b42a0700a7fe1008009ec200b42abf00b42a6c00b42a4fe400b42a0700a7fe1008009ec200b42abf00b42a6900b42a4ff300b42abf00b42a6600b42a4ff000b42abf00b42a6300b42a4f1bbf00b42a6000b42a4f2e1d1c00b42a1d7500b42a0f00a41dbc00b42a1301b61b2a1001b560041001b4592a4f1b1001b42a7b00b42a4fbf00b42a1001b42a7800b42a24009f1c1b3ebc00b42a3dc500b42a
theorem dmcX12_stepKept : dkc dncX12_stepKept 205 cX12_stepKept.data.toList 0 = true := by decide +kernel
theorem dX12_stepKept_0 : decode cX12_stepKept 0 = .ok (.aload_n 0, 1) := dk_42 (dkn dmcX12_stepKept (by decide +kernel))
theorem dX12_stepKept_1 : decode cX12_stepKept 1 = .ok (.getfield 197, 3) := dk_180 (a := 0) (b := 197) (dkn dmcX12_stepKept (by decide +kernel)) rfl
theorem dX12_stepKept_4 : decode cX12_stepKept 4 = .ok (.istore_n 2, 1) := dk_61 (dkn dmcX12_stepKept (by decide +kernel))
theorem dX12_stepKept_5 : decode cX12_stepKept 5 = .ok (.aload_n 0, 1) := dk_42 (dkn dmcX12_stepKept (by decide +kernel))
theorem dX12_stepKept_6 : decode cX12_stepKept 6 = .ok (.getfield 188, 3) := dk_180 (a := 0) (b := 188) (dkn dmcX12_stepKept (by decide +kernel)) rfl
theorem dX12_stepKept_9 : decode cX12_stepKept 9 = .ok (.istore_n 3, 1) := dk_62 (dkn dmcX12_stepKept (by decide +kernel))
theorem dX12_stepKept_10 : decode cX12_stepKept 10 = .ok (.iload_n 1, 1) := dk_27 (dkn dmcX12_stepKept (by decide +kernel))
theorem dX12_stepKept_11 : decode cX12_stepKept 11 = .ok (.iload_n 2, 1) := dk_28 (dkn dmcX12_stepKept (by decide +kernel))
theorem dX12_stepKept_12 : decode cX12_stepKept 12 = .ok (.if_icmp .eq 36, 3) := dk_159 (a := 0) (b := 36) (dkn dmcX12_stepKept (by decide +kernel)) rfl
theorem dX12_stepKept_15 : decode cX12_stepKept 15 = .ok (.aload_n 0, 1) := dk_42 (dkn dmcX12_stepKept (by decide +kernel))
theorem dX12_stepKept_16 : decode cX12_stepKept 16 = .ok (.getfield 120, 3) := dk_180 (a := 0) (b := 120) (dkn dmcX12_stepKept (by decide +kernel)) rfl
theorem dX12_stepKept_19 : decode cX12_stepKept 19 = .ok (.aload_n 0, 1) := dk_42 (dkn dmcX12_stepKept (by decide +kernel))
theorem dX12_stepKept_20 : decode cX12_stepKept 20 = .ok (.getfield 272, 3) := dk_180 (a := 1) (b := 16) (dkn dmcX12_stepKept (by decide +kernel)) rfl
theorem dX12_stepKept_23 : decode cX12_stepKept 23 = .ok (.aload_n 0, 1) := dk_42 (dkn dmcX12_stepKept (by decide +kernel))
theorem dX12_stepKept_24 : decode cX12_stepKept 24 = .ok (.getfield 191, 3) := dk_180 (a := 0) (b := 191) (dkn dmcX12_stepKept (by decide +kernel)) rfl
theorem dX12_stepKept_27 : decode cX12_stepKept 27 = .ok (.iastore, 1) := dk_79 (dkn dmcX12_stepKept (by decide +kernel))
theorem dX12_stepKept_28 : decode cX12_stepKept 28 = .ok (.aload_n 0, 1) := dk_42 (dkn dmcX12_stepKept (by decide +kernel))
theorem dX12_stepKept_29 : decode cX12_stepKept 29 = .ok (.getfield 123, 3) := dk_180 (a := 0) (b := 123) (dkn dmcX12_stepKept (by decide +kernel)) rfl
theorem dX12_stepKept_32 : decode cX12_stepKept 32 = .ok (.aload_n 0, 1) := dk_42 (dkn dmcX12_stepKept (by decide +kernel))
theorem dX12_stepKept_33 : decode cX12_stepKept 33 = .ok (.getfield 272, 3) := dk_180 (a := 1) (b := 16) (dkn dmcX12_stepKept (by decide +kernel)) rfl
theorem dX12_stepKept_36 : decode cX12_stepKept 36 = .ok (.iload_n 1, 1) := dk_27 (dkn dmcX12_stepKept (by decide +kernel))
theorem dX12_stepKept_37 : decode cX12_stepKept 37 = .ok (.iastore, 1) := dk_79 (dkn dmcX12_stepKept (by decide +kernel))
theorem dX12_stepKept_38 : decode cX12_stepKept 38 = .ok (.aload_n 0, 1) := dk_42 (dkn dmcX12_stepKept (by decide +kernel))
theorem dX12_stepKept_39 : decode cX12_stepKept 39 = .ok (.dup, 1) := dk_89 (dkn dmcX12_stepKept (by decide +kernel))
theorem dX12_stepKept_40 : decode cX12_stepKept 40 = .ok (.getfield 272, 3) := dk_180 (a := 1) (b := 16) (dkn dmcX12_stepKept (by decide +kernel)) rfl
theorem dX12_stepKept_43 : decode cX12_stepKept 43 = .ok (.iconst 1, 1) := dk_4 (dkn dmcX12_stepKept (by decide +kernel))
theorem dX12_stepKept_44 : decode cX12_stepKept 44 = .ok (.iadd, 1) := dk_96 (dkn dmcX12_stepKept (by decide +kernel))
theorem dX12_stepKept_45 : decode cX12_stepKept 45 = .ok (.putfield 272, 3) := dk_181 (a := 1) (b := 16) (dkn dmcX12_stepKept (by decide +kernel)) rfl
theorem dX12_stepKept_48 : decode cX12_stepKept 48 = .ok (.aload_n 0, 1) := dk_42 (dkn dmcX12_stepKept (by decide +kernel))
theorem dX12_stepKept_49 : decode cX12_stepKept 49 = .ok (.iload_n 1, 1) := dk_27 (dkn dmcX12_stepKept (by decide +kernel))
theorem dX12_stepKept_50 : decode cX12_stepKept 50 = .ok (.invokevirtual 275, 3) := dk_182 (a := 1) (b := 19) (dkn dmcX12_stepKept (by decide +kernel)) rfl
theorem dX12_stepKept_53 : decode cX12_stepKept 53 = .ok (.aload_n 0, 1) := dk_42 (dkn dmcX12_stepKept (by decide +kernel))
theorem dX12_stepKept_54 : decode cX12_stepKept 54 = .ok (.getfield 188, 3) := dk_180 (a := 0) (b := 188) (dkn dmcX12_stepKept (by decide +kernel)) rfl
theorem dX12_stepKept_57 : decode cX12_stepKept 57 = .ok (.iload_n 3, 1) := dk_29 (dkn dmcX12_stepKept (by decide +kernel))
theorem dX12_stepKept_58 : decode cX12_stepKept 58 = .ok (.if_icmp .le 15, 3) := dk_164 (a := 0) (b := 15) (dkn dmcX12_stepKept (by decide +kernel)) rfl
theorem dX12_stepKept_61 : decode cX12_stepKept 61 = .ok (.aload_n 0, 1) := dk_42 (dkn dmcX12_stepKept (by decide +kernel))
theorem dX12_stepKept_62 : decode cX12_stepKept 62 = .ok (.getfield 117, 3) := dk_180 (a := 0) (b := 117) (dkn dmcX12_stepKept (by decide +kernel)) rfl
theorem dX12_stepKept_65 : decode cX12_stepKept 65 = .ok (.iload_n 3, 1) := dk_29 (dkn dmcX12_stepKept (by decide +kernel))
theorem dX12_stepKept_66 : decode cX12_stepKept 66 = .ok (.aload_n 0, 1) := dk_42 (dkn dmcX12_stepKept (by decide +kernel))
theorem dX12_stepKept_67 : decode cX12_stepKept 67 = .ok (.getfield 28, 3) := dk_180 (a := 0) (b := 28) (dkn dmcX12_stepKept (by decide +kernel)) rfl
theorem dX12_stepKept_70 : decode cX12_stepKept 70 = .ok (.iload_n 3, 1) := dk_29 (dkn dmcX12_stepKept (by decide +kernel))
theorem dX12_stepKept_71 : decode cX12_stepKept 71 = .ok (.iaload, 1) := dk_46 (dkn dmcX12_stepKept (by decide +kernel))
theorem dX12_stepKept_72 : decode cX12_stepKept 72 = .ok (.iastore, 1) := dk_79 (dkn dmcX12_stepKept (by decide +kernel))
theorem dX12_stepKept_73 : decode cX12_stepKept 73 = .ok (.aload_n 0, 1) := dk_42 (dkn dmcX12_stepKept (by decide +kernel))
theorem dX12_stepKept_74 : decode cX12_stepKept 74 = .ok (.getfield 96, 3) := dk_180 (a := 0) (b := 96) (dkn dmcX12_stepKept (by decide +kernel)) rfl
theorem dX12_stepKept_77 : decode cX12_stepKept 77 = .ok (.aload_n 0, 1) := dk_42 (dkn dmcX12_stepKept (by decide +kernel))
theorem dX12_stepKept_78 : decode cX12_stepKept 78 = .ok (.getfield 191, 3) := dk_180 (a := 0) (b := 191) (dkn dmcX12_stepKept (by decide +kernel)) rfl
theorem dX12_stepKept_81 : decode cX12_stepKept 81 = .ok (.iload_n 1, 1) := dk_27 (dkn dmcX12_stepKept (by decide +kernel))
theorem dX12_stepKept_82 : decode cX12_stepKept 82 = .ok (.iastore, 1) := dk_79 (dkn dmcX12_stepKept (by decide +kernel))
theorem dX12_stepKept_83 : decode cX12_stepKept 83 = .ok (.aload_n 0, 1) := dk_42 (dkn dmcX12_stepKept (by decide +kernel))
theorem dX12_stepKept_84 : decode cX12_stepKept 84 = .ok (.getfield 99, 3) := dk_180 (a := 0) (b := 99) (dkn dmcX12_stepKept (by decide +kernel)) rfl
theorem dX12_stepKept_87 : decode cX12_stepKept 87 = .ok (.aload_n 0, 1) := dk_42 (dkn dmcX12_stepKept (by decide +kernel))
theorem dX12_stepKept_88 : decode cX12_stepKept 88 = .ok (.getfield 191, 3) := dk_180 (a := 0) (b := 191) (dkn dmcX12_stepKept (by decide +kernel)) rfl
theorem dX12_stepKept_91 : decode cX12_stepKept 91 = .ok (.aload_n 0, 1) := dk_42 (dkn dmcX12_stepKept (by decide +kernel))
theorem dX12_stepKept_92 : decode cX12_stepKept 92 = .ok (.getfield 240, 3) := dk_180 (a := 0) (b := 240) (dkn dmcX12_stepKept (by decide +kernel)) rfl
theorem dX12_stepKept_95 : decode cX12_stepKept 95 = .ok (.iastore, 1) := dk_79 (dkn dmcX12_stepKept (by decide +kernel))
theorem dX12_stepKept_96 : decode cX12_stepKept 96 = .ok (.aload_n 0, 1) := dk_42 (dkn dmcX12_stepKept (by decide +kernel))
theorem dX12_stepKept_97 : decode cX12_stepKept 97 = .ok (.getfield 102, 3) := dk_180 (a := 0) (b := 102) (dkn dmcX12_stepKept (by decide +kernel)) rfl
theorem dX12_stepKept_100 : decode cX12_stepKept 100 = .ok (.aload_n 0, 1) := dk_42 (dkn dmcX12_stepKept (by decide +kernel))
theorem dX12_stepKept_101 : decode cX12_stepKept 101 = .ok (.getfield 191, 3) := dk_180 (a := 0) (b := 191) (dkn dmcX12_stepKept (by decide +kernel)) rfl
theorem dX12_stepKept_104 : decode cX12_stepKept 104 = .ok (.aload_n 0, 1) := dk_42 (dkn dmcX12_stepKept (by decide +kernel))
theorem dX12_stepKept_105 : decode cX12_stepKept 105 = .ok (.getfield 243, 3) := dk_180 (a := 0) (b := 243) (dkn dmcX12_stepKept (by decide +kernel)) rfl
theorem dX12_stepKept_108 : decode cX12_stepKept 108 = .ok (.iastore, 1) := dk_79 (dkn dmcX12_stepKept (by decide +kernel))
theorem dX12_stepKept_109 : decode cX12_stepKept 109 = .ok (.aload_n 0, 1) := dk_42 (dkn dmcX12_stepKept (by decide +kernel))
theorem dX12_stepKept_110 : decode cX12_stepKept 110 = .ok (.getfield 105, 3) := dk_180 (a := 0) (b := 105) (dkn dmcX12_stepKept (by decide +kernel)) rfl
theorem dX12_stepKept_113 : decode cX12_stepKept 113 = .ok (.aload_n 0, 1) := dk_42 (dkn dmcX12_stepKept (by decide +kernel))
theorem dX12_stepKept_114 : decode cX12_stepKept 114 = .ok (.getfield 191, 3) := dk_180 (a := 0) (b := 191) (dkn dmcX12_stepKept (by decide +kernel)) rfl
theorem dX12_stepKept_117 : decode cX12_stepKept 117 = .ok (.aload_n 0, 1) := dk_42 (dkn dmcX12_stepKept (by decide +kernel))
theorem dX12_stepKept_118 : decode cX12_stepKept 118 = .ok (.getfield 194, 3) := dk_180 (a := 0) (b := 194) (dkn dmcX12_stepKept (by decide +kernel)) rfl
theorem dX12_stepKept_121 : decode cX12_stepKept 121 = .ok (.ifCond .le 8, 3) := dk_158 (a := 0) (b := 8) (dkn dmcX12_stepKept (by decide +kernel)) rfl
theorem dX12_stepKept_124 : decode cX12_stepKept 124 = .ok (.bipush (-2), 2) := dk_16 (a := 254) (dkn dmcX12_stepKept (by decide +kernel)) rfl
theorem dX12_stepKept_126 : decode cX12_stepKept 126 = .ok (.goto 7, 3) := dk_167 (a := 0) (b := 7) (dkn dmcX12_stepKept (by decide +kernel)) rfl
theorem dX12_stepKept_129 : decode cX12_stepKept 129 = .ok (.aload_n 0, 1) := dk_42 (dkn dmcX12_stepKept (by decide +kernel))
theorem dX12_stepKept_130 : decode cX12_stepKept 130 = .ok (.getfield 228, 3) := dk_180 (a := 0) (b := 228) (dkn dmcX12_stepKept (by decide +kernel)) rfl
theorem dX12_stepKept_133 : decode cX12_stepKept 133 = .ok (.iastore, 1) := dk_79 (dkn dmcX12_stepKept (by decide +kernel))
theorem dX12_stepKept_134 : decode cX12_stepKept 134 = .ok (.aload_n 0, 1) := dk_42 (dkn dmcX12_stepKept (by decide +kernel))
theorem dX12_stepKept_135 : decode cX12_stepKept 135 = .ok (.getfield 108, 3) := dk_180 (a := 0) (b := 108) (dkn dmcX12_stepKept (by decide +kernel)) rfl
theorem dX12_stepKept_138 : decode cX12_stepKept 138 = .ok (.aload_n 0, 1) := dk_42 (dkn dmcX12_stepKept (by decide +kernel))
theorem dX12_stepKept_139 : decode cX12_stepKept 139 = .ok (.getfield 191, 3) := dk_180 (a := 0) (b := 191) (dkn dmcX12_stepKept (by decide +kernel)) rfl
theorem dX12_stepKept_142 : decode cX12_stepKept 142 = .ok (.aload_n 0, 1) := dk_42 (dkn dmcX12_stepKept (by decide +kernel))
theorem dX12_stepKept_143 : decode cX12_stepKept 143 = .ok (.getfield 194, 3) := dk_180 (a := 0) (b := 194) (dkn dmcX12_stepKept (by decide +kernel)) rfl
theorem dX12_stepKept_146 : decode cX12_stepKept 146 = .ok (.ifCond .le 8, 3) := dk_158 (a := 0) (b := 8) (dkn dmcX12_stepKept (by decide +kernel)) rfl
theorem dX12_stepKept_149 : decode cX12_stepKept 149 = .ok (.bipush (-2), 2) := dk_16 (a := 254) (dkn dmcX12_stepKept (by decide +kernel)) rfl
theorem dX12_stepKept_151 : decode cX12_stepKept 151 = .ok (.goto 7, 3) := dk_167 (a := 0) (b := 7) (dkn dmcX12_stepKept (by decide +kernel)) rfl
theorem dX12_stepKept_154 : decode cX12_stepKept 154 = .ok (.aload_n 0, 1) := dk_42 (dkn dmcX12_stepKept (by decide +kernel))
theorem dX12_stepKept_155 : decode cX12_stepKept 155 = .ok (.getfield 231, 3) := dk_180 (a := 0) (b := 231) (dkn dmcX12_stepKept (by decide +kernel)) rfl
theorem dX12_stepKept_158 : decode cX12_stepKept 158 = .ok (.iastore, 1) := dk_79 (dkn dmcX12_stepKept (by decide +kernel))
theorem dX12_stepKept_159 : decode cX12_stepKept 159 = .ok (.aload_n 0, 1) := dk_42 (dkn dmcX12_stepKept (by decide +kernel))
theorem dX12_stepKept_160 : decode cX12_stepKept 160 = .ok (.getfield 111, 3) := dk_180 (a := 0) (b := 111) (dkn dmcX12_stepKept (by decide +kernel)) rfl
theorem dX12_stepKept_163 : decode cX12_stepKept 163 = .ok (.aload_n 0, 1) := dk_42 (dkn dmcX12_stepKept (by decide +kernel))
theorem dX12_stepKept_164 : decode cX12_stepKept 164 = .ok (.getfield 191, 3) := dk_180 (a := 0) (b := 191) (dkn dmcX12_stepKept (by decide +kernel)) rfl
theorem dX12_stepKept_167 : decode cX12_stepKept 167 = .ok (.aload_n 0, 1) := dk_42 (dkn dmcX12_stepKept (by decide +kernel))
theorem dX12_stepKept_168 : decode cX12_stepKept 168 = .ok (.getfield 194, 3) := dk_180 (a := 0) (b := 194) (dkn dmcX12_stepKept (by decide +kernel)) rfl
theorem dX12_stepKept_171 : decode cX12_stepKept 171 = .ok (.ifCond .le 7, 3) := dk_158 (a := 0) (b := 7) (dkn dmcX12_stepKept (by decide +kernel)) rfl
theorem dX12_stepKept_174 : decode cX12_stepKept 174 = .ok (.iconst 0, 1) := dk_3 (dkn dmcX12_stepKept (by decide +kernel))
theorem dX12_stepKept_175 : decode cX12_stepKept 175 = .ok (.goto 7, 3) := dk_167 (a := 0) (b := 7) (dkn dmcX12_stepKept (by decide +kernel)) rfl
theorem dX12_stepKept_178 : decode cX12_stepKept 178 = .ok (.aload_n 0, 1) := dk_42 (dkn dmcX12_stepKept (by decide +kernel))
theorem dX12_stepKept_179 : decode cX12_stepKept 179 = .ok (.getfield 234, 3) := dk_180 (a := 0) (b := 234) (dkn dmcX12_stepKept (by decide +kernel)) rfl
theorem dX12_stepKept_182 : decode cX12_stepKept 182 = .ok (.iastore, 1) := dk_79 (dkn dmcX12_stepKept (by decide +kernel))
theorem dX12_stepKept_183 : decode cX12_stepKept 183 = .ok (.aload_n 0, 1) := dk_42 (dkn dmcX12_stepKept (by decide +kernel))
theorem dX12_stepKept_184 : decode cX12_stepKept 184 = .ok (.getfield 114, 3) := dk_180 (a := 0) (b := 114) (dkn dmcX12_stepKept (by decide +kernel)) rfl
theorem dX12_stepKept_187 : decode cX12_stepKept 187 = .ok (.aload_n 0, 1) := dk_42 (dkn dmcX12_stepKept (by decide +kernel))
theorem dX12_stepKept_188 : decode cX12_stepKept 188 = .ok (.getfield 191, 3) := dk_180 (a := 0) (b := 191) (dkn dmcX12_stepKept (by decide +kernel)) rfl
theorem dX12_stepKept_191 : decode cX12_stepKept 191 = .ok (.aload_n 0, 1) := dk_42 (dkn dmcX12_stepKept (by decide +kernel))
theorem dX12_stepKept_192 : decode cX12_stepKept 192 = .ok (.getfield 237, 3) := dk_180 (a := 0) (b := 237) (dkn dmcX12_stepKept (by decide +kernel)) rfl
theorem dX12_stepKept_195 : decode cX12_stepKept 195 = .ok (.iastore, 1) := dk_79 (dkn dmcX12_stepKept (by decide +kernel))
theorem dX12_stepKept_196 : decode cX12_stepKept 196 = .ok (.aload_n 0, 1) := dk_42 (dkn dmcX12_stepKept (by decide +kernel))
theorem dX12_stepKept_197 : decode cX12_stepKept 197 = .ok (.aload_n 0, 1) := dk_42 (dkn dmcX12_stepKept (by decide +kernel))
theorem dX12_stepKept_198 : decode cX12_stepKept 198 = .ok (.getfield 191, 3) := dk_180 (a := 0) (b := 191) (dkn dmcX12_stepKept (by decide +kernel)) rfl
theorem dX12_stepKept_201 : decode cX12_stepKept 201 = .ok (.invokevirtual 279, 3) := dk_182 (a := 1) (b := 23) (dkn dmcX12_stepKept (by decide +kernel)) rfl
theorem dX12_stepKept_204 : decode cX12_stepKept 204 = .ok (.return_, 1) := dk_177 (dkn dmcX12_stepKept (by decide +kernel))
def dncX12_ending : Nat := 0xac040400a7030700991bdaffa70102843c030400a7040700a018102e1c2b00b42a0e0099331c2e00b42a1b00991b2700a2071c3d033c04ac0605009b1a01b6032aac0505009ec200b42a
theorem dmcX12_ending : dkc dncX12_ending 74 cX12_ending.data.toList 0 = true := by decide +kernel
theorem dX12_ending_0 : decode cX12_ending 0 = .ok (.aload_n 0, 1) := dk_42 (dkn dmcX12_ending (by decide +kernel))
theorem dX12_ending_1 : decode cX12_ending 1 = .ok (.getfield 194, 3) := dk_180 (a := 0) (b := 194) (dkn dmcX12_ending (by decide +kernel)) rfl
theorem dX12_ending_4 : decode cX12_ending 4 = .ok (.ifCond .le 5, 3) := dk_158 (a := 0) (b := 5) (dkn dmcX12_ending (by decide +kernel)) rfl
theorem dX12_ending_7 : decode cX12_ending 7 = .ok (.iconst 2, 1) := dk_5 (dkn dmcX12_ending (by decide +kernel))
theorem dX12_ending_8 : decode cX12_ending 8 = .ok (.ireturn, 1) := dk_172 (dkn dmcX12_ending (by decide +kernel))
theorem dX12_ending_9 : decode cX12_ending 9 = .ok (.aload_n 0, 1) := dk_42 (dkn dmcX12_ending (by decide +kernel))
theorem dX12_ending_10 : decode cX12_ending 10 = .ok (.iconst 0, 1) := dk_3 (dkn dmcX12_ending (by decide +kernel))
theorem dX12_ending_11 : decode cX12_ending 11 = .ok (.invokevirtual 282, 3) := dk_182 (a := 1) (b := 26) (dkn dmcX12_ending (by decide +kernel)) rfl
theorem dX12_ending_14 : decode cX12_ending 14 = .ok (.ifCond .lt 5, 3) := dk_155 (a := 0) (b := 5) (dkn dmcX12_ending (by decide +kernel)) rfl
theorem dX12_ending_17 : decode cX12_ending 17 = .ok (.iconst 3, 1) := dk_6 (dkn dmcX12_ending (by decide +kernel))
theorem dX12_ending_18 : decode cX12_ending 18 = .ok (.ireturn, 1) := dk_172 (dkn dmcX12_ending (by decide +kernel))
theorem dX12_ending_19 : decode cX12_ending 19 = .ok (.iconst 1, 1) := dk_4 (dkn dmcX12_ending (by decide +kernel))
theorem dX12_ending_20 : decode cX12_ending 20 = .ok (.istore_n 1, 1) := dk_60 (dkn dmcX12_ending (by decide +kernel))
theorem dX12_ending_21 : decode cX12_ending 21 = .ok (.iconst 0, 1) := dk_3 (dkn dmcX12_ending (by decide +kernel))
theorem dX12_ending_22 : decode cX12_ending 22 = .ok (.istore_n 2, 1) := dk_61 (dkn dmcX12_ending (by decide +kernel))
theorem dX12_ending_23 : decode cX12_ending 23 = .ok (.iload_n 2, 1) := dk_28 (dkn dmcX12_ending (by decide +kernel))
theorem dX12_ending_24 : decode cX12_ending 24 = .ok (.iconst 4, 1) := dk_7 (dkn dmcX12_ending (by decide +kernel))
theorem dX12_ending_25 : decode cX12_ending 25 = .ok (.if_icmp .ge 39, 3) := dk_162 (a := 0) (b := 39) (dkn dmcX12_ending (by decide +kernel)) rfl
theorem dX12_ending_28 : decode cX12_ending 28 = .ok (.iload_n 1, 1) := dk_27 (dkn dmcX12_ending (by decide +kernel))
theorem dX12_ending_29 : decode cX12_ending 29 = .ok (.ifCond .eq 27, 3) := dk_153 (a := 0) (b := 27) (dkn dmcX12_ending (by decide +kernel)) rfl
theorem dX12_ending_32 : decode cX12_ending 32 = .ok (.aload_n 0, 1) := dk_42 (dkn dmcX12_ending (by decide +kernel))
theorem dX12_ending_33 : decode cX12_ending 33 = .ok (.getfield 46, 3) := dk_180 (a := 0) (b := 46) (dkn dmcX12_ending (by decide +kernel)) rfl
theorem dX12_ending_36 : decode cX12_ending 36 = .ok (.iload_n 2, 1) := dk_28 (dkn dmcX12_ending (by decide +kernel))
theorem dX12_ending_37 : decode cX12_ending 37 = .ok (.baload, 1) := dk_51 (dkn dmcX12_ending (by decide +kernel))
theorem dX12_ending_38 : decode cX12_ending 38 = .ok (.ifCond .eq 14, 3) := dk_153 (a := 0) (b := 14) (dkn dmcX12_ending (by decide +kernel)) rfl
theorem dX12_ending_41 : decode cX12_ending 41 = .ok (.aload_n 0, 1) := dk_42 (dkn dmcX12_ending (by decide +kernel))
theorem dX12_ending_42 : decode cX12_ending 42 = .ok (.getfield 43, 3) := dk_180 (a := 0) (b := 43) (dkn dmcX12_ending (by decide +kernel)) rfl
theorem dX12_ending_45 : decode cX12_ending 45 = .ok (.iload_n 2, 1) := dk_28 (dkn dmcX12_ending (by decide +kernel))
theorem dX12_ending_46 : decode cX12_ending 46 = .ok (.iaload, 1) := dk_46 (dkn dmcX12_ending (by decide +kernel))
theorem dX12_ending_47 : decode cX12_ending 47 = .ok (.bipush 24, 2) := dk_16 (a := 24) (dkn dmcX12_ending (by decide +kernel)) rfl
theorem dX12_ending_49 : decode cX12_ending 49 = .ok (.if_icmp .ne 7, 3) := dk_160 (a := 0) (b := 7) (dkn dmcX12_ending (by decide +kernel)) rfl
theorem dX12_ending_52 : decode cX12_ending 52 = .ok (.iconst 1, 1) := dk_4 (dkn dmcX12_ending (by decide +kernel))
theorem dX12_ending_53 : decode cX12_ending 53 = .ok (.goto 4, 3) := dk_167 (a := 0) (b := 4) (dkn dmcX12_ending (by decide +kernel)) rfl
theorem dX12_ending_56 : decode cX12_ending 56 = .ok (.iconst 0, 1) := dk_3 (dkn dmcX12_ending (by decide +kernel))
theorem dX12_ending_57 : decode cX12_ending 57 = .ok (.istore_n 1, 1) := dk_60 (dkn dmcX12_ending (by decide +kernel))
theorem dX12_ending_58 : decode cX12_ending 58 = .ok (.iinc 2 1, 3) := dk_132 (b := 1) (dkn dmcX12_ending (by decide +kernel)) rfl
theorem dX12_ending_61 : decode cX12_ending 61 = .ok (.goto (-38), 3) := dk_167 (a := 255) (b := 218) (dkn dmcX12_ending (by decide +kernel)) rfl
theorem dX12_ending_64 : decode cX12_ending 64 = .ok (.iload_n 1, 1) := dk_27 (dkn dmcX12_ending (by decide +kernel))
theorem dX12_ending_65 : decode cX12_ending 65 = .ok (.ifCond .eq 7, 3) := dk_153 (a := 0) (b := 7) (dkn dmcX12_ending (by decide +kernel)) rfl
theorem dX12_ending_68 : decode cX12_ending 68 = .ok (.iconst 0, 1) := dk_3 (dkn dmcX12_ending (by decide +kernel))
theorem dX12_ending_69 : decode cX12_ending 69 = .ok (.goto 4, 3) := dk_167 (a := 0) (b := 4) (dkn dmcX12_ending (by decide +kernel)) rfl
theorem dX12_ending_72 : decode cX12_ending 72 = .ok (.iconst 1, 1) := dk_4 (dkn dmcX12_ending (by decide +kernel))
theorem dX12_ending_73 : decode cX12_ending 73 = .ok (.ireturn, 1) := dk_172 (dkn dmcX12_ending (by decide +kernel))
def dncX12_run : Nat := 0xac2d01b42a3c01b5bf00b42a2a3901b5bc00b42a2a3601b5020400a7c500b42a0a009ec200b42a2a3301b5c200b42a2a3001b5bf00b42a2a2d01b52901b62a2a2601b5042addffa73c1a01b6c500b42a2a2301b61b2a1400a22c0111bf00b42a1e009ac200b42a25009b1b3c1a01b6c500b42a2abbffa7010184cbffa70102842301b62e1b1f00b42a2a130099d700b62e1b1f00b42a2a2000a22c0111bf00b42a2a009ac200b42a3100a22e1b2200b42a1c3d034300a2b600b42a1b3c031701b6032a2001b5032a1001b5032a1d01b62ada00b5032aa400b5032a
theorem dmcX12_run : dkc dncX12_run 219 cX12_run.data.toList 0 = true := by decide +kernel
theorem dX12_run_0 : decode cX12_run 0 = .ok (.aload_n 0, 1) := dk_42 (dkn dmcX12_run (by decide +kernel))
theorem dX12_run_1 : decode cX12_run 1 = .ok (.iconst 0, 1) := dk_3 (dkn dmcX12_run (by decide +kernel))
theorem dX12_run_2 : decode cX12_run 2 = .ok (.putfield 164, 3) := dk_181 (a := 0) (b := 164) (dkn dmcX12_run (by decide +kernel)) rfl
theorem dX12_run_5 : decode cX12_run 5 = .ok (.aload_n 0, 1) := dk_42 (dkn dmcX12_run (by decide +kernel))
theorem dX12_run_6 : decode cX12_run 6 = .ok (.iconst 0, 1) := dk_3 (dkn dmcX12_run (by decide +kernel))
theorem dX12_run_7 : decode cX12_run 7 = .ok (.putfield 218, 3) := dk_181 (a := 0) (b := 218) (dkn dmcX12_run (by decide +kernel)) rfl
theorem dX12_run_10 : decode cX12_run 10 = .ok (.aload_n 0, 1) := dk_42 (dkn dmcX12_run (by decide +kernel))
theorem dX12_run_11 : decode cX12_run 11 = .ok (.invokevirtual 285, 3) := dk_182 (a := 1) (b := 29) (dkn dmcX12_run (by decide +kernel)) rfl
theorem dX12_run_14 : decode cX12_run 14 = .ok (.aload_n 0, 1) := dk_42 (dkn dmcX12_run (by decide +kernel))
theorem dX12_run_15 : decode cX12_run 15 = .ok (.iconst 0, 1) := dk_3 (dkn dmcX12_run (by decide +kernel))
theorem dX12_run_16 : decode cX12_run 16 = .ok (.putfield 272, 3) := dk_181 (a := 1) (b := 16) (dkn dmcX12_run (by decide +kernel)) rfl
theorem dX12_run_19 : decode cX12_run 19 = .ok (.aload_n 0, 1) := dk_42 (dkn dmcX12_run (by decide +kernel))
theorem dX12_run_20 : decode cX12_run 20 = .ok (.iconst 0, 1) := dk_3 (dkn dmcX12_run (by decide +kernel))
theorem dX12_run_21 : decode cX12_run 21 = .ok (.putfield 288, 3) := dk_181 (a := 1) (b := 32) (dkn dmcX12_run (by decide +kernel)) rfl
theorem dX12_run_24 : decode cX12_run 24 = .ok (.aload_n 0, 1) := dk_42 (dkn dmcX12_run (by decide +kernel))
theorem dX12_run_25 : decode cX12_run 25 = .ok (.iconst 0, 1) := dk_3 (dkn dmcX12_run (by decide +kernel))
theorem dX12_run_26 : decode cX12_run 26 = .ok (.invokevirtual 279, 3) := dk_182 (a := 1) (b := 23) (dkn dmcX12_run (by decide +kernel)) rfl
theorem dX12_run_29 : decode cX12_run 29 = .ok (.iconst 0, 1) := dk_3 (dkn dmcX12_run (by decide +kernel))
theorem dX12_run_30 : decode cX12_run 30 = .ok (.istore_n 1, 1) := dk_60 (dkn dmcX12_run (by decide +kernel))
theorem dX12_run_31 : decode cX12_run 31 = .ok (.iload_n 1, 1) := dk_27 (dkn dmcX12_run (by decide +kernel))
theorem dX12_run_32 : decode cX12_run 32 = .ok (.aload_n 0, 1) := dk_42 (dkn dmcX12_run (by decide +kernel))
theorem dX12_run_33 : decode cX12_run 33 = .ok (.getfield 182, 3) := dk_180 (a := 0) (b := 182) (dkn dmcX12_run (by decide +kernel)) rfl
theorem dX12_run_36 : decode cX12_run 36 = .ok (.if_icmp .ge 67, 3) := dk_162 (a := 0) (b := 67) (dkn dmcX12_run (by decide +kernel)) rfl
theorem dX12_run_39 : decode cX12_run 39 = .ok (.iconst 0, 1) := dk_3 (dkn dmcX12_run (by decide +kernel))
theorem dX12_run_40 : decode cX12_run 40 = .ok (.istore_n 2, 1) := dk_61 (dkn dmcX12_run (by decide +kernel))
theorem dX12_run_41 : decode cX12_run 41 = .ok (.iload_n 2, 1) := dk_28 (dkn dmcX12_run (by decide +kernel))
theorem dX12_run_42 : decode cX12_run 42 = .ok (.aload_n 0, 1) := dk_42 (dkn dmcX12_run (by decide +kernel))
theorem dX12_run_43 : decode cX12_run 43 = .ok (.getfield 34, 3) := dk_180 (a := 0) (b := 34) (dkn dmcX12_run (by decide +kernel)) rfl
theorem dX12_run_46 : decode cX12_run 46 = .ok (.iload_n 1, 1) := dk_27 (dkn dmcX12_run (by decide +kernel))
theorem dX12_run_47 : decode cX12_run 47 = .ok (.iaload, 1) := dk_46 (dkn dmcX12_run (by decide +kernel))
theorem dX12_run_48 : decode cX12_run 48 = .ok (.if_icmp .ge 49, 3) := dk_162 (a := 0) (b := 49) (dkn dmcX12_run (by decide +kernel)) rfl
theorem dX12_run_51 : decode cX12_run 51 = .ok (.aload_n 0, 1) := dk_42 (dkn dmcX12_run (by decide +kernel))
theorem dX12_run_52 : decode cX12_run 52 = .ok (.getfield 194, 3) := dk_180 (a := 0) (b := 194) (dkn dmcX12_run (by decide +kernel)) rfl
theorem dX12_run_55 : decode cX12_run 55 = .ok (.ifCond .ne 42, 3) := dk_154 (a := 0) (b := 42) (dkn dmcX12_run (by decide +kernel)) rfl
theorem dX12_run_58 : decode cX12_run 58 = .ok (.aload_n 0, 1) := dk_42 (dkn dmcX12_run (by decide +kernel))
theorem dX12_run_59 : decode cX12_run 59 = .ok (.getfield 191, 3) := dk_180 (a := 0) (b := 191) (dkn dmcX12_run (by decide +kernel)) rfl
theorem dX12_run_62 : decode cX12_run 62 = .ok (.sipush 300, 3) := dk_17 (a := 1) (b := 44) (dkn dmcX12_run (by decide +kernel)) rfl
theorem dX12_run_65 : decode cX12_run 65 = .ok (.if_icmp .ge 32, 3) := dk_162 (a := 0) (b := 32) (dkn dmcX12_run (by decide +kernel)) rfl
theorem dX12_run_68 : decode cX12_run 68 = .ok (.aload_n 0, 1) := dk_42 (dkn dmcX12_run (by decide +kernel))
theorem dX12_run_69 : decode cX12_run 69 = .ok (.aload_n 0, 1) := dk_42 (dkn dmcX12_run (by decide +kernel))
theorem dX12_run_70 : decode cX12_run 70 = .ok (.getfield 31, 3) := dk_180 (a := 0) (b := 31) (dkn dmcX12_run (by decide +kernel)) rfl
theorem dX12_run_73 : decode cX12_run 73 = .ok (.iload_n 1, 1) := dk_27 (dkn dmcX12_run (by decide +kernel))
theorem dX12_run_74 : decode cX12_run 74 = .ok (.iaload, 1) := dk_46 (dkn dmcX12_run (by decide +kernel))
theorem dX12_run_75 : decode cX12_run 75 = .ok (.invokevirtual 215, 3) := dk_182 (a := 0) (b := 215) (dkn dmcX12_run (by decide +kernel)) rfl
theorem dX12_run_78 : decode cX12_run 78 = .ok (.ifCond .eq 19, 3) := dk_153 (a := 0) (b := 19) (dkn dmcX12_run (by decide +kernel)) rfl
theorem dX12_run_81 : decode cX12_run 81 = .ok (.aload_n 0, 1) := dk_42 (dkn dmcX12_run (by decide +kernel))
theorem dX12_run_82 : decode cX12_run 82 = .ok (.aload_n 0, 1) := dk_42 (dkn dmcX12_run (by decide +kernel))
theorem dX12_run_83 : decode cX12_run 83 = .ok (.getfield 31, 3) := dk_180 (a := 0) (b := 31) (dkn dmcX12_run (by decide +kernel)) rfl
theorem dX12_run_86 : decode cX12_run 86 = .ok (.iload_n 1, 1) := dk_27 (dkn dmcX12_run (by decide +kernel))
theorem dX12_run_87 : decode cX12_run 87 = .ok (.iaload, 1) := dk_46 (dkn dmcX12_run (by decide +kernel))
theorem dX12_run_88 : decode cX12_run 88 = .ok (.invokevirtual 291, 3) := dk_182 (a := 1) (b := 35) (dkn dmcX12_run (by decide +kernel)) rfl
theorem dX12_run_91 : decode cX12_run 91 = .ok (.iinc 2 1, 3) := dk_132 (b := 1) (dkn dmcX12_run (by decide +kernel)) rfl
theorem dX12_run_94 : decode cX12_run 94 = .ok (.goto (-53), 3) := dk_167 (a := 255) (b := 203) (dkn dmcX12_run (by decide +kernel)) rfl
theorem dX12_run_97 : decode cX12_run 97 = .ok (.iinc 1 1, 3) := dk_132 (b := 1) (dkn dmcX12_run (by decide +kernel)) rfl
theorem dX12_run_100 : decode cX12_run 100 = .ok (.goto (-69), 3) := dk_167 (a := 255) (b := 187) (dkn dmcX12_run (by decide +kernel)) rfl
theorem dX12_run_103 : decode cX12_run 103 = .ok (.aload_n 0, 1) := dk_42 (dkn dmcX12_run (by decide +kernel))
theorem dX12_run_104 : decode cX12_run 104 = .ok (.aload_n 0, 1) := dk_42 (dkn dmcX12_run (by decide +kernel))
theorem dX12_run_105 : decode cX12_run 105 = .ok (.getfield 197, 3) := dk_180 (a := 0) (b := 197) (dkn dmcX12_run (by decide +kernel)) rfl
theorem dX12_run_108 : decode cX12_run 108 = .ok (.invokevirtual 282, 3) := dk_182 (a := 1) (b := 26) (dkn dmcX12_run (by decide +kernel)) rfl
theorem dX12_run_111 : decode cX12_run 111 = .ok (.istore_n 1, 1) := dk_60 (dkn dmcX12_run (by decide +kernel))
theorem dX12_run_112 : decode cX12_run 112 = .ok (.iload_n 1, 1) := dk_27 (dkn dmcX12_run (by decide +kernel))
theorem dX12_run_113 : decode cX12_run 113 = .ok (.ifCond .lt 37, 3) := dk_155 (a := 0) (b := 37) (dkn dmcX12_run (by decide +kernel)) rfl
theorem dX12_run_116 : decode cX12_run 116 = .ok (.aload_n 0, 1) := dk_42 (dkn dmcX12_run (by decide +kernel))
theorem dX12_run_117 : decode cX12_run 117 = .ok (.getfield 194, 3) := dk_180 (a := 0) (b := 194) (dkn dmcX12_run (by decide +kernel)) rfl
theorem dX12_run_120 : decode cX12_run 120 = .ok (.ifCond .ne 30, 3) := dk_154 (a := 0) (b := 30) (dkn dmcX12_run (by decide +kernel)) rfl
theorem dX12_run_123 : decode cX12_run 123 = .ok (.aload_n 0, 1) := dk_42 (dkn dmcX12_run (by decide +kernel))
theorem dX12_run_124 : decode cX12_run 124 = .ok (.getfield 191, 3) := dk_180 (a := 0) (b := 191) (dkn dmcX12_run (by decide +kernel)) rfl
theorem dX12_run_127 : decode cX12_run 127 = .ok (.sipush 300, 3) := dk_17 (a := 1) (b := 44) (dkn dmcX12_run (by decide +kernel)) rfl
theorem dX12_run_130 : decode cX12_run 130 = .ok (.if_icmp .ge 20, 3) := dk_162 (a := 0) (b := 20) (dkn dmcX12_run (by decide +kernel)) rfl
theorem dX12_run_133 : decode cX12_run 133 = .ok (.aload_n 0, 1) := dk_42 (dkn dmcX12_run (by decide +kernel))
theorem dX12_run_134 : decode cX12_run 134 = .ok (.iload_n 1, 1) := dk_27 (dkn dmcX12_run (by decide +kernel))
theorem dX12_run_135 : decode cX12_run 135 = .ok (.invokevirtual 291, 3) := dk_182 (a := 1) (b := 35) (dkn dmcX12_run (by decide +kernel)) rfl
theorem dX12_run_138 : decode cX12_run 138 = .ok (.aload_n 0, 1) := dk_42 (dkn dmcX12_run (by decide +kernel))
theorem dX12_run_139 : decode cX12_run 139 = .ok (.aload_n 0, 1) := dk_42 (dkn dmcX12_run (by decide +kernel))
theorem dX12_run_140 : decode cX12_run 140 = .ok (.getfield 197, 3) := dk_180 (a := 0) (b := 197) (dkn dmcX12_run (by decide +kernel)) rfl
theorem dX12_run_143 : decode cX12_run 143 = .ok (.invokevirtual 282, 3) := dk_182 (a := 1) (b := 26) (dkn dmcX12_run (by decide +kernel)) rfl
theorem dX12_run_146 : decode cX12_run 146 = .ok (.istore_n 1, 1) := dk_60 (dkn dmcX12_run (by decide +kernel))
theorem dX12_run_147 : decode cX12_run 147 = .ok (.goto (-35), 3) := dk_167 (a := 255) (b := 221) (dkn dmcX12_run (by decide +kernel)) rfl
theorem dX12_run_150 : decode cX12_run 150 = .ok (.aload_n 0, 1) := dk_42 (dkn dmcX12_run (by decide +kernel))
theorem dX12_run_151 : decode cX12_run 151 = .ok (.iconst 1, 1) := dk_4 (dkn dmcX12_run (by decide +kernel))
theorem dX12_run_152 : decode cX12_run 152 = .ok (.putfield 294, 3) := dk_181 (a := 1) (b := 38) (dkn dmcX12_run (by decide +kernel)) rfl
theorem dX12_run_155 : decode cX12_run 155 = .ok (.aload_n 0, 1) := dk_42 (dkn dmcX12_run (by decide +kernel))
theorem dX12_run_156 : decode cX12_run 156 = .ok (.aload_n 0, 1) := dk_42 (dkn dmcX12_run (by decide +kernel))
theorem dX12_run_157 : decode cX12_run 157 = .ok (.invokevirtual 297, 3) := dk_182 (a := 1) (b := 41) (dkn dmcX12_run (by decide +kernel)) rfl
theorem dX12_run_160 : decode cX12_run 160 = .ok (.putfield 301, 3) := dk_181 (a := 1) (b := 45) (dkn dmcX12_run (by decide +kernel)) rfl
theorem dX12_run_163 : decode cX12_run 163 = .ok (.aload_n 0, 1) := dk_42 (dkn dmcX12_run (by decide +kernel))
theorem dX12_run_164 : decode cX12_run 164 = .ok (.aload_n 0, 1) := dk_42 (dkn dmcX12_run (by decide +kernel))
theorem dX12_run_165 : decode cX12_run 165 = .ok (.getfield 191, 3) := dk_180 (a := 0) (b := 191) (dkn dmcX12_run (by decide +kernel)) rfl
theorem dX12_run_168 : decode cX12_run 168 = .ok (.putfield 304, 3) := dk_181 (a := 1) (b := 48) (dkn dmcX12_run (by decide +kernel)) rfl
theorem dX12_run_171 : decode cX12_run 171 = .ok (.aload_n 0, 1) := dk_42 (dkn dmcX12_run (by decide +kernel))
theorem dX12_run_172 : decode cX12_run 172 = .ok (.aload_n 0, 1) := dk_42 (dkn dmcX12_run (by decide +kernel))
theorem dX12_run_173 : decode cX12_run 173 = .ok (.getfield 194, 3) := dk_180 (a := 0) (b := 194) (dkn dmcX12_run (by decide +kernel)) rfl
theorem dX12_run_176 : decode cX12_run 176 = .ok (.putfield 307, 3) := dk_181 (a := 1) (b := 51) (dkn dmcX12_run (by decide +kernel)) rfl
theorem dX12_run_179 : decode cX12_run 179 = .ok (.aload_n 0, 1) := dk_42 (dkn dmcX12_run (by decide +kernel))
theorem dX12_run_180 : decode cX12_run 180 = .ok (.aload_n 0, 1) := dk_42 (dkn dmcX12_run (by decide +kernel))
theorem dX12_run_181 : decode cX12_run 181 = .ok (.getfield 194, 3) := dk_180 (a := 0) (b := 194) (dkn dmcX12_run (by decide +kernel)) rfl
theorem dX12_run_184 : decode cX12_run 184 = .ok (.ifCond .le 10, 3) := dk_158 (a := 0) (b := 10) (dkn dmcX12_run (by decide +kernel)) rfl
theorem dX12_run_187 : decode cX12_run 187 = .ok (.aload_n 0, 1) := dk_42 (dkn dmcX12_run (by decide +kernel))
theorem dX12_run_188 : decode cX12_run 188 = .ok (.getfield 197, 3) := dk_180 (a := 0) (b := 197) (dkn dmcX12_run (by decide +kernel)) rfl
theorem dX12_run_191 : decode cX12_run 191 = .ok (.goto 4, 3) := dk_167 (a := 0) (b := 4) (dkn dmcX12_run (by decide +kernel)) rfl
theorem dX12_run_194 : decode cX12_run 194 = .ok (.iconst (-1), 1) := dk_2 (dkn dmcX12_run (by decide +kernel))
theorem dX12_run_195 : decode cX12_run 195 = .ok (.putfield 310, 3) := dk_181 (a := 1) (b := 54) (dkn dmcX12_run (by decide +kernel)) rfl
theorem dX12_run_198 : decode cX12_run 198 = .ok (.aload_n 0, 1) := dk_42 (dkn dmcX12_run (by decide +kernel))
theorem dX12_run_199 : decode cX12_run 199 = .ok (.aload_n 0, 1) := dk_42 (dkn dmcX12_run (by decide +kernel))
theorem dX12_run_200 : decode cX12_run 200 = .ok (.getfield 188, 3) := dk_180 (a := 0) (b := 188) (dkn dmcX12_run (by decide +kernel)) rfl
theorem dX12_run_203 : decode cX12_run 203 = .ok (.putfield 313, 3) := dk_181 (a := 1) (b := 57) (dkn dmcX12_run (by decide +kernel)) rfl
theorem dX12_run_206 : decode cX12_run 206 = .ok (.aload_n 0, 1) := dk_42 (dkn dmcX12_run (by decide +kernel))
theorem dX12_run_207 : decode cX12_run 207 = .ok (.aload_n 0, 1) := dk_42 (dkn dmcX12_run (by decide +kernel))
theorem dX12_run_208 : decode cX12_run 208 = .ok (.getfield 191, 3) := dk_180 (a := 0) (b := 191) (dkn dmcX12_run (by decide +kernel)) rfl
theorem dX12_run_211 : decode cX12_run 211 = .ok (.putfield 316, 3) := dk_181 (a := 1) (b := 60) (dkn dmcX12_run (by decide +kernel)) rfl
theorem dX12_run_214 : decode cX12_run 214 = .ok (.aload_n 0, 1) := dk_42 (dkn dmcX12_run (by decide +kernel))
theorem dX12_run_215 : decode cX12_run 215 = .ok (.getfield 301, 3) := dk_180 (a := 1) (b := 45) (dkn dmcX12_run (by decide +kernel)) rfl
theorem dX12_run_218 : decode cX12_run 218 = .ok (.ireturn, 1) := dk_172 (dkn dmcX12_run (by decide +kernel))
def dncX12_told : Nat := 0xac02ac60683901b42a07681001b42a06ac3901b42aac1001b42aac2e3001b42a5000b42aac3601b42aac3301b42aac3001b42aac2d01b42a58000000530000004e000000440000003f0000003a0000003500000030000000070000000000000066000000000000aa1bacfe1006009a2601b42aa400b5032a
theorem dmcX12_told : dkc dncX12_told 120 cX12_told.data.toList 0 = true := by decide +kernel
theorem dX12_told_0 : decode cX12_told 0 = .ok (.aload_n 0, 1) := dk_42 (dkn dmcX12_told (by decide +kernel))
theorem dX12_told_1 : decode cX12_told 1 = .ok (.iconst 0, 1) := dk_3 (dkn dmcX12_told (by decide +kernel))
theorem dX12_told_2 : decode cX12_told 2 = .ok (.putfield 164, 3) := dk_181 (a := 0) (b := 164) (dkn dmcX12_told (by decide +kernel)) rfl
theorem dX12_told_5 : decode cX12_told 5 = .ok (.aload_n 0, 1) := dk_42 (dkn dmcX12_told (by decide +kernel))
theorem dX12_told_6 : decode cX12_told 6 = .ok (.getfield 294, 3) := dk_180 (a := 1) (b := 38) (dkn dmcX12_told (by decide +kernel)) rfl
theorem dX12_told_9 : decode cX12_told 9 = .ok (.ifCond .ne 6, 3) := dk_154 (a := 0) (b := 6) (dkn dmcX12_told (by decide +kernel)) rfl
theorem dX12_told_12 : decode cX12_told 12 = .ok (.bipush (-2), 2) := dk_16 (a := 254) (dkn dmcX12_told (by decide +kernel)) rfl
theorem dX12_told_14 : decode cX12_told 14 = .ok (.ireturn, 1) := dk_172 (dkn dmcX12_told (by decide +kernel))
theorem dX12_told_15 : decode cX12_told 15 = .ok (.iload_n 1, 1) := dk_27 (dkn dmcX12_told (by decide +kernel))
theorem dX12_told_16 : decode cX12_told 16 = .ok (.tableswitch 102 0 7 #[48, 53, 58, 63, 68, 78, 83, 88], 48) := by decide +kernel
theorem dX12_told_64 : decode cX12_told 64 = .ok (.aload_n 0, 1) := dk_42 (dkn dmcX12_told (by decide +kernel))
theorem dX12_told_65 : decode cX12_told 65 = .ok (.getfield 301, 3) := dk_180 (a := 1) (b := 45) (dkn dmcX12_told (by decide +kernel)) rfl
theorem dX12_told_68 : decode cX12_told 68 = .ok (.ireturn, 1) := dk_172 (dkn dmcX12_told (by decide +kernel))
theorem dX12_told_69 : decode cX12_told 69 = .ok (.aload_n 0, 1) := dk_42 (dkn dmcX12_told (by decide +kernel))
theorem dX12_told_70 : decode cX12_told 70 = .ok (.getfield 304, 3) := dk_180 (a := 1) (b := 48) (dkn dmcX12_told (by decide +kernel)) rfl
theorem dX12_told_73 : decode cX12_told 73 = .ok (.ireturn, 1) := dk_172 (dkn dmcX12_told (by decide +kernel))
theorem dX12_told_74 : decode cX12_told 74 = .ok (.aload_n 0, 1) := dk_42 (dkn dmcX12_told (by decide +kernel))
theorem dX12_told_75 : decode cX12_told 75 = .ok (.getfield 307, 3) := dk_180 (a := 1) (b := 51) (dkn dmcX12_told (by decide +kernel)) rfl
theorem dX12_told_78 : decode cX12_told 78 = .ok (.ireturn, 1) := dk_172 (dkn dmcX12_told (by decide +kernel))
theorem dX12_told_79 : decode cX12_told 79 = .ok (.aload_n 0, 1) := dk_42 (dkn dmcX12_told (by decide +kernel))
theorem dX12_told_80 : decode cX12_told 80 = .ok (.getfield 310, 3) := dk_180 (a := 1) (b := 54) (dkn dmcX12_told (by decide +kernel)) rfl
theorem dX12_told_83 : decode cX12_told 83 = .ok (.ireturn, 1) := dk_172 (dkn dmcX12_told (by decide +kernel))
theorem dX12_told_84 : decode cX12_told 84 = .ok (.aload_n 0, 1) := dk_42 (dkn dmcX12_told (by decide +kernel))
theorem dX12_told_85 : decode cX12_told 85 = .ok (.getfield 80, 3) := dk_180 (a := 0) (b := 80) (dkn dmcX12_told (by decide +kernel)) rfl
theorem dX12_told_88 : decode cX12_told 88 = .ok (.aload_n 0, 1) := dk_42 (dkn dmcX12_told (by decide +kernel))
theorem dX12_told_89 : decode cX12_told 89 = .ok (.getfield 304, 3) := dk_180 (a := 1) (b := 48) (dkn dmcX12_told (by decide +kernel)) rfl
theorem dX12_told_92 : decode cX12_told 92 = .ok (.iaload, 1) := dk_46 (dkn dmcX12_told (by decide +kernel))
theorem dX12_told_93 : decode cX12_told 93 = .ok (.ireturn, 1) := dk_172 (dkn dmcX12_told (by decide +kernel))
theorem dX12_told_94 : decode cX12_told 94 = .ok (.aload_n 0, 1) := dk_42 (dkn dmcX12_told (by decide +kernel))
theorem dX12_told_95 : decode cX12_told 95 = .ok (.getfield 272, 3) := dk_180 (a := 1) (b := 16) (dkn dmcX12_told (by decide +kernel)) rfl
theorem dX12_told_98 : decode cX12_told 98 = .ok (.ireturn, 1) := dk_172 (dkn dmcX12_told (by decide +kernel))
theorem dX12_told_99 : decode cX12_told 99 = .ok (.aload_n 0, 1) := dk_42 (dkn dmcX12_told (by decide +kernel))
theorem dX12_told_100 : decode cX12_told 100 = .ok (.getfield 313, 3) := dk_180 (a := 1) (b := 57) (dkn dmcX12_told (by decide +kernel)) rfl
theorem dX12_told_103 : decode cX12_told 103 = .ok (.ireturn, 1) := dk_172 (dkn dmcX12_told (by decide +kernel))
theorem dX12_told_104 : decode cX12_told 104 = .ok (.iconst 3, 1) := dk_6 (dkn dmcX12_told (by decide +kernel))
theorem dX12_told_105 : decode cX12_told 105 = .ok (.aload_n 0, 1) := dk_42 (dkn dmcX12_told (by decide +kernel))
theorem dX12_told_106 : decode cX12_told 106 = .ok (.getfield 272, 3) := dk_180 (a := 1) (b := 16) (dkn dmcX12_told (by decide +kernel)) rfl
theorem dX12_told_109 : decode cX12_told 109 = .ok (.imul, 1) := dk_104 (dkn dmcX12_told (by decide +kernel))
theorem dX12_told_110 : decode cX12_told 110 = .ok (.iconst 4, 1) := dk_7 (dkn dmcX12_told (by decide +kernel))
theorem dX12_told_111 : decode cX12_told 111 = .ok (.aload_n 0, 1) := dk_42 (dkn dmcX12_told (by decide +kernel))
theorem dX12_told_112 : decode cX12_told 112 = .ok (.getfield 313, 3) := dk_180 (a := 1) (b := 57) (dkn dmcX12_told (by decide +kernel)) rfl
theorem dX12_told_115 : decode cX12_told 115 = .ok (.imul, 1) := dk_104 (dkn dmcX12_told (by decide +kernel))
theorem dX12_told_116 : decode cX12_told 116 = .ok (.iadd, 1) := dk_96 (dkn dmcX12_told (by decide +kernel))
theorem dX12_told_117 : decode cX12_told 117 = .ok (.ireturn, 1) := dk_172 (dkn dmcX12_told (by decide +kernel))
theorem dX12_told_118 : decode cX12_told 118 = .ok (.iconst (-1), 1) := dk_2 (dkn dmcX12_told (by decide +kernel))
theorem dX12_told_119 : decode cX12_told 119 = .ok (.ireturn, 1) := dk_172 (dkn dmcX12_told (by decide +kernel))
def dncX12_change : Nat := 0xac2e1b7b00b42a0900a72e1b7800b42a0c009a1c1600a70207009aa900b80a09851c0d00a21001b42a1b15009b1bac0205009a2601b42aa400b5032a
theorem dmcX12_change : dkc dncX12_change 60 cX12_change.data.toList 0 = true := by decide +kernel
theorem dX12_change_0 : decode cX12_change 0 = .ok (.aload_n 0, 1) := dk_42 (dkn dmcX12_change (by decide +kernel))
theorem dX12_change_1 : decode cX12_change 1 = .ok (.iconst 0, 1) := dk_3 (dkn dmcX12_change (by decide +kernel))
theorem dX12_change_2 : decode cX12_change 2 = .ok (.putfield 164, 3) := dk_181 (a := 0) (b := 164) (dkn dmcX12_change (by decide +kernel)) rfl
theorem dX12_change_5 : decode cX12_change 5 = .ok (.aload_n 0, 1) := dk_42 (dkn dmcX12_change (by decide +kernel))
theorem dX12_change_6 : decode cX12_change 6 = .ok (.getfield 294, 3) := dk_180 (a := 1) (b := 38) (dkn dmcX12_change (by decide +kernel)) rfl
theorem dX12_change_9 : decode cX12_change 9 = .ok (.ifCond .ne 5, 3) := dk_154 (a := 0) (b := 5) (dkn dmcX12_change (by decide +kernel)) rfl
theorem dX12_change_12 : decode cX12_change 12 = .ok (.iconst (-1), 1) := dk_2 (dkn dmcX12_change (by decide +kernel))
theorem dX12_change_13 : decode cX12_change 13 = .ok (.ireturn, 1) := dk_172 (dkn dmcX12_change (by decide +kernel))
theorem dX12_change_14 : decode cX12_change 14 = .ok (.iload_n 1, 1) := dk_27 (dkn dmcX12_change (by decide +kernel))
theorem dX12_change_15 : decode cX12_change 15 = .ok (.ifCond .lt 21, 3) := dk_155 (a := 0) (b := 21) (dkn dmcX12_change (by decide +kernel)) rfl
theorem dX12_change_18 : decode cX12_change 18 = .ok (.iload_n 1, 1) := dk_27 (dkn dmcX12_change (by decide +kernel))
theorem dX12_change_19 : decode cX12_change 19 = .ok (.aload_n 0, 1) := dk_42 (dkn dmcX12_change (by decide +kernel))
theorem dX12_change_20 : decode cX12_change 20 = .ok (.getfield 272, 3) := dk_180 (a := 1) (b := 16) (dkn dmcX12_change (by decide +kernel)) rfl
theorem dX12_change_23 : decode cX12_change 23 = .ok (.if_icmp .ge 13, 3) := dk_162 (a := 0) (b := 13) (dkn dmcX12_change (by decide +kernel)) rfl
theorem dX12_change_26 : decode cX12_change 26 = .ok (.iload_n 2, 1) := dk_28 (dkn dmcX12_change (by decide +kernel))
theorem dX12_change_27 : decode cX12_change 27 = .ok (.i2l, 1) := dk_133 (dkn dmcX12_change (by decide +kernel))
theorem dX12_change_28 : decode cX12_change 28 = .ok (.lconst 0, 1) := dk_9 (dkn dmcX12_change (by decide +kernel))
theorem dX12_change_29 : decode cX12_change 29 = .ok (.lconst 1, 1) := dk_10 (dkn dmcX12_change (by decide +kernel))
theorem dX12_change_30 : decode cX12_change 30 = .ok (.invokestatic 169, 3) := dk_184 (a := 0) (b := 169) (dkn dmcX12_change (by decide +kernel)) rfl
theorem dX12_change_33 : decode cX12_change 33 = .ok (.ifCond .ne 7, 3) := dk_154 (a := 0) (b := 7) (dkn dmcX12_change (by decide +kernel)) rfl
theorem dX12_change_36 : decode cX12_change 36 = .ok (.iconst (-1), 1) := dk_2 (dkn dmcX12_change (by decide +kernel))
theorem dX12_change_37 : decode cX12_change 37 = .ok (.goto 22, 3) := dk_167 (a := 0) (b := 22) (dkn dmcX12_change (by decide +kernel)) rfl
theorem dX12_change_40 : decode cX12_change 40 = .ok (.iload_n 2, 1) := dk_28 (dkn dmcX12_change (by decide +kernel))
theorem dX12_change_41 : decode cX12_change 41 = .ok (.ifCond .ne 12, 3) := dk_154 (a := 0) (b := 12) (dkn dmcX12_change (by decide +kernel)) rfl
theorem dX12_change_44 : decode cX12_change 44 = .ok (.aload_n 0, 1) := dk_42 (dkn dmcX12_change (by decide +kernel))
theorem dX12_change_45 : decode cX12_change 45 = .ok (.getfield 120, 3) := dk_180 (a := 0) (b := 120) (dkn dmcX12_change (by decide +kernel)) rfl
theorem dX12_change_48 : decode cX12_change 48 = .ok (.iload_n 1, 1) := dk_27 (dkn dmcX12_change (by decide +kernel))
theorem dX12_change_49 : decode cX12_change 49 = .ok (.iaload, 1) := dk_46 (dkn dmcX12_change (by decide +kernel))
theorem dX12_change_50 : decode cX12_change 50 = .ok (.goto 9, 3) := dk_167 (a := 0) (b := 9) (dkn dmcX12_change (by decide +kernel)) rfl
theorem dX12_change_53 : decode cX12_change 53 = .ok (.aload_n 0, 1) := dk_42 (dkn dmcX12_change (by decide +kernel))
theorem dX12_change_54 : decode cX12_change 54 = .ok (.getfield 123, 3) := dk_180 (a := 0) (b := 123) (dkn dmcX12_change (by decide +kernel)) rfl
theorem dX12_change_57 : decode cX12_change 57 = .ok (.iload_n 1, 1) := dk_27 (dkn dmcX12_change (by decide +kernel))
theorem dX12_change_58 : decode cX12_change 58 = .ok (.iaload, 1) := dk_46 (dkn dmcX12_change (by decide +kernel))
theorem dX12_change_59 : decode cX12_change 59 = .ok (.ireturn, 1) := dk_172 (dkn dmcX12_change (by decide +kernel))
def dncX12_step_ : Nat := 0xac02ac2e1b6f00b42aac2e1b6c00b42aac2e1b6900b42aac2e1b6600b42aac2e1b6300b42aac2e1b6000b42a48000000410000003a000000330000002c0000002500000005000000000000004f000000aa1cac0205009aa900b8853001b42a0a851bac0205009a2601b42aa400b5032a
theorem dmcX12_step_ : dkc dncX12_step_ 112 cX12_step_.data.toList 0 = true := by decide +kernel
theorem dX12_step__0 : decode cX12_step_ 0 = .ok (.aload_n 0, 1) := dk_42 (dkn dmcX12_step_ (by decide +kernel))
theorem dX12_step__1 : decode cX12_step_ 1 = .ok (.iconst 0, 1) := dk_3 (dkn dmcX12_step_ (by decide +kernel))
theorem dX12_step__2 : decode cX12_step_ 2 = .ok (.putfield 164, 3) := dk_181 (a := 0) (b := 164) (dkn dmcX12_step_ (by decide +kernel)) rfl
theorem dX12_step__5 : decode cX12_step_ 5 = .ok (.aload_n 0, 1) := dk_42 (dkn dmcX12_step_ (by decide +kernel))
theorem dX12_step__6 : decode cX12_step_ 6 = .ok (.getfield 294, 3) := dk_180 (a := 1) (b := 38) (dkn dmcX12_step_ (by decide +kernel)) rfl
theorem dX12_step__9 : decode cX12_step_ 9 = .ok (.ifCond .ne 5, 3) := dk_154 (a := 0) (b := 5) (dkn dmcX12_step_ (by decide +kernel)) rfl
theorem dX12_step__12 : decode cX12_step_ 12 = .ok (.iconst (-1), 1) := dk_2 (dkn dmcX12_step_ (by decide +kernel))
theorem dX12_step__13 : decode cX12_step_ 13 = .ok (.ireturn, 1) := dk_172 (dkn dmcX12_step_ (by decide +kernel))
theorem dX12_step__14 : decode cX12_step_ 14 = .ok (.iload_n 1, 1) := dk_27 (dkn dmcX12_step_ (by decide +kernel))
theorem dX12_step__15 : decode cX12_step_ 15 = .ok (.i2l, 1) := dk_133 (dkn dmcX12_step_ (by decide +kernel))
theorem dX12_step__16 : decode cX12_step_ 16 = .ok (.lconst 1, 1) := dk_10 (dkn dmcX12_step_ (by decide +kernel))
theorem dX12_step__17 : decode cX12_step_ 17 = .ok (.aload_n 0, 1) := dk_42 (dkn dmcX12_step_ (by decide +kernel))
theorem dX12_step__18 : decode cX12_step_ 18 = .ok (.getfield 304, 3) := dk_180 (a := 1) (b := 48) (dkn dmcX12_step_ (by decide +kernel)) rfl
theorem dX12_step__21 : decode cX12_step_ 21 = .ok (.i2l, 1) := dk_133 (dkn dmcX12_step_ (by decide +kernel))
theorem dX12_step__22 : decode cX12_step_ 22 = .ok (.invokestatic 169, 3) := dk_184 (a := 0) (b := 169) (dkn dmcX12_step_ (by decide +kernel)) rfl
theorem dX12_step__25 : decode cX12_step_ 25 = .ok (.ifCond .ne 5, 3) := dk_154 (a := 0) (b := 5) (dkn dmcX12_step_ (by decide +kernel)) rfl
theorem dX12_step__28 : decode cX12_step_ 28 = .ok (.iconst (-1), 1) := dk_2 (dkn dmcX12_step_ (by decide +kernel))
theorem dX12_step__29 : decode cX12_step_ 29 = .ok (.ireturn, 1) := dk_172 (dkn dmcX12_step_ (by decide +kernel))
theorem dX12_step__30 : decode cX12_step_ 30 = .ok (.iload_n 2, 1) := dk_28 (dkn dmcX12_step_ (by decide +kernel))
theorem dX12_step__31 : decode cX12_step_ 31 = .ok (.tableswitch 79 0 5 #[37, 44, 51, 58, 65, 72], 37) := by decide +kernel
theorem dX12_step__68 : decode cX12_step_ 68 = .ok (.aload_n 0, 1) := dk_42 (dkn dmcX12_step_ (by decide +kernel))
theorem dX12_step__69 : decode cX12_step_ 69 = .ok (.getfield 96, 3) := dk_180 (a := 0) (b := 96) (dkn dmcX12_step_ (by decide +kernel)) rfl
theorem dX12_step__72 : decode cX12_step_ 72 = .ok (.iload_n 1, 1) := dk_27 (dkn dmcX12_step_ (by decide +kernel))
theorem dX12_step__73 : decode cX12_step_ 73 = .ok (.iaload, 1) := dk_46 (dkn dmcX12_step_ (by decide +kernel))
theorem dX12_step__74 : decode cX12_step_ 74 = .ok (.ireturn, 1) := dk_172 (dkn dmcX12_step_ (by decide +kernel))
theorem dX12_step__75 : decode cX12_step_ 75 = .ok (.aload_n 0, 1) := dk_42 (dkn dmcX12_step_ (by decide +kernel))
theorem dX12_step__76 : decode cX12_step_ 76 = .ok (.getfield 99, 3) := dk_180 (a := 0) (b := 99) (dkn dmcX12_step_ (by decide +kernel)) rfl
theorem dX12_step__79 : decode cX12_step_ 79 = .ok (.iload_n 1, 1) := dk_27 (dkn dmcX12_step_ (by decide +kernel))
theorem dX12_step__80 : decode cX12_step_ 80 = .ok (.iaload, 1) := dk_46 (dkn dmcX12_step_ (by decide +kernel))
theorem dX12_step__81 : decode cX12_step_ 81 = .ok (.ireturn, 1) := dk_172 (dkn dmcX12_step_ (by decide +kernel))
theorem dX12_step__82 : decode cX12_step_ 82 = .ok (.aload_n 0, 1) := dk_42 (dkn dmcX12_step_ (by decide +kernel))
theorem dX12_step__83 : decode cX12_step_ 83 = .ok (.getfield 102, 3) := dk_180 (a := 0) (b := 102) (dkn dmcX12_step_ (by decide +kernel)) rfl
theorem dX12_step__86 : decode cX12_step_ 86 = .ok (.iload_n 1, 1) := dk_27 (dkn dmcX12_step_ (by decide +kernel))
theorem dX12_step__87 : decode cX12_step_ 87 = .ok (.iaload, 1) := dk_46 (dkn dmcX12_step_ (by decide +kernel))
theorem dX12_step__88 : decode cX12_step_ 88 = .ok (.ireturn, 1) := dk_172 (dkn dmcX12_step_ (by decide +kernel))
theorem dX12_step__89 : decode cX12_step_ 89 = .ok (.aload_n 0, 1) := dk_42 (dkn dmcX12_step_ (by decide +kernel))
theorem dX12_step__90 : decode cX12_step_ 90 = .ok (.getfield 105, 3) := dk_180 (a := 0) (b := 105) (dkn dmcX12_step_ (by decide +kernel)) rfl
theorem dX12_step__93 : decode cX12_step_ 93 = .ok (.iload_n 1, 1) := dk_27 (dkn dmcX12_step_ (by decide +kernel))
theorem dX12_step__94 : decode cX12_step_ 94 = .ok (.iaload, 1) := dk_46 (dkn dmcX12_step_ (by decide +kernel))
theorem dX12_step__95 : decode cX12_step_ 95 = .ok (.ireturn, 1) := dk_172 (dkn dmcX12_step_ (by decide +kernel))
theorem dX12_step__96 : decode cX12_step_ 96 = .ok (.aload_n 0, 1) := dk_42 (dkn dmcX12_step_ (by decide +kernel))
theorem dX12_step__97 : decode cX12_step_ 97 = .ok (.getfield 108, 3) := dk_180 (a := 0) (b := 108) (dkn dmcX12_step_ (by decide +kernel)) rfl
theorem dX12_step__100 : decode cX12_step_ 100 = .ok (.iload_n 1, 1) := dk_27 (dkn dmcX12_step_ (by decide +kernel))
theorem dX12_step__101 : decode cX12_step_ 101 = .ok (.iaload, 1) := dk_46 (dkn dmcX12_step_ (by decide +kernel))
theorem dX12_step__102 : decode cX12_step_ 102 = .ok (.ireturn, 1) := dk_172 (dkn dmcX12_step_ (by decide +kernel))
theorem dX12_step__103 : decode cX12_step_ 103 = .ok (.aload_n 0, 1) := dk_42 (dkn dmcX12_step_ (by decide +kernel))
theorem dX12_step__104 : decode cX12_step_ 104 = .ok (.getfield 111, 3) := dk_180 (a := 0) (b := 111) (dkn dmcX12_step_ (by decide +kernel)) rfl
theorem dX12_step__107 : decode cX12_step_ 107 = .ok (.iload_n 1, 1) := dk_27 (dkn dmcX12_step_ (by decide +kernel))
theorem dX12_step__108 : decode cX12_step_ 108 = .ok (.iaload, 1) := dk_46 (dkn dmcX12_step_ (by decide +kernel))
theorem dX12_step__109 : decode cX12_step_ 109 = .ok (.ireturn, 1) := dk_172 (dkn dmcX12_step_ (by decide +kernel))
theorem dX12_step__110 : decode cX12_step_ 110 = .ok (.iconst (-1), 1) := dk_2 (dkn dmcX12_step_ (by decide +kernel))
theorem dX12_step__111 : decode cX12_step_ 111 = .ok (.ireturn, 1) := dk_172 (dkn dmcX12_step_ (by decide +kernel))
def dncX12_toldThread : Nat := 0xac1de0ffa70104843e1d0400a72e04157b00b42a0d00a21c2e04157800b42a2000a21b04150436033e03
theorem dmcX12_toldThread : dkc dncX12_toldThread 42 cX12_toldThread.data.toList 0 = true := by decide +kernel
theorem dX12_toldThread_0 : decode cX12_toldThread 0 = .ok (.iconst 0, 1) := dk_3 (dkn dmcX12_toldThread (by decide +kernel))
theorem dX12_toldThread_1 : decode cX12_toldThread 1 = .ok (.istore_n 3, 1) := dk_62 (dkn dmcX12_toldThread (by decide +kernel))
theorem dX12_toldThread_2 : decode cX12_toldThread 2 = .ok (.iconst 0, 1) := dk_3 (dkn dmcX12_toldThread (by decide +kernel))
theorem dX12_toldThread_3 : decode cX12_toldThread 3 = .ok (.istore 4, 2) := dk_54 (dkn dmcX12_toldThread (by decide +kernel))
theorem dX12_toldThread_5 : decode cX12_toldThread 5 = .ok (.iload 4, 2) := dk_21 (dkn dmcX12_toldThread (by decide +kernel))
theorem dX12_toldThread_7 : decode cX12_toldThread 7 = .ok (.iload_n 1, 1) := dk_27 (dkn dmcX12_toldThread (by decide +kernel))
theorem dX12_toldThread_8 : decode cX12_toldThread 8 = .ok (.if_icmp .ge 32, 3) := dk_162 (a := 0) (b := 32) (dkn dmcX12_toldThread (by decide +kernel)) rfl
theorem dX12_toldThread_11 : decode cX12_toldThread 11 = .ok (.aload_n 0, 1) := dk_42 (dkn dmcX12_toldThread (by decide +kernel))
theorem dX12_toldThread_12 : decode cX12_toldThread 12 = .ok (.getfield 120, 3) := dk_180 (a := 0) (b := 120) (dkn dmcX12_toldThread (by decide +kernel)) rfl
theorem dX12_toldThread_15 : decode cX12_toldThread 15 = .ok (.iload 4, 2) := dk_21 (dkn dmcX12_toldThread (by decide +kernel))
theorem dX12_toldThread_17 : decode cX12_toldThread 17 = .ok (.iaload, 1) := dk_46 (dkn dmcX12_toldThread (by decide +kernel))
theorem dX12_toldThread_18 : decode cX12_toldThread 18 = .ok (.iload_n 2, 1) := dk_28 (dkn dmcX12_toldThread (by decide +kernel))
theorem dX12_toldThread_19 : decode cX12_toldThread 19 = .ok (.if_icmp .ge 13, 3) := dk_162 (a := 0) (b := 13) (dkn dmcX12_toldThread (by decide +kernel)) rfl
theorem dX12_toldThread_22 : decode cX12_toldThread 22 = .ok (.aload_n 0, 1) := dk_42 (dkn dmcX12_toldThread (by decide +kernel))
theorem dX12_toldThread_23 : decode cX12_toldThread 23 = .ok (.getfield 123, 3) := dk_180 (a := 0) (b := 123) (dkn dmcX12_toldThread (by decide +kernel)) rfl
theorem dX12_toldThread_26 : decode cX12_toldThread 26 = .ok (.iload 4, 2) := dk_21 (dkn dmcX12_toldThread (by decide +kernel))
theorem dX12_toldThread_28 : decode cX12_toldThread 28 = .ok (.iaload, 1) := dk_46 (dkn dmcX12_toldThread (by decide +kernel))
theorem dX12_toldThread_29 : decode cX12_toldThread 29 = .ok (.goto 4, 3) := dk_167 (a := 0) (b := 4) (dkn dmcX12_toldThread (by decide +kernel)) rfl
theorem dX12_toldThread_32 : decode cX12_toldThread 32 = .ok (.iload_n 3, 1) := dk_29 (dkn dmcX12_toldThread (by decide +kernel))
theorem dX12_toldThread_33 : decode cX12_toldThread 33 = .ok (.istore_n 3, 1) := dk_62 (dkn dmcX12_toldThread (by decide +kernel))
theorem dX12_toldThread_34 : decode cX12_toldThread 34 = .ok (.iinc 4 1, 3) := dk_132 (b := 1) (dkn dmcX12_toldThread (by decide +kernel)) rfl
theorem dX12_toldThread_37 : decode cX12_toldThread 37 = .ok (.goto (-32), 3) := dk_167 (a := 255) (b := 224) (dkn dmcX12_toldThread (by decide +kernel)) rfl
theorem dX12_toldThread_40 : decode cX12_toldThread 40 = .ok (.iload_n 3, 1) := dk_29 (dkn dmcX12_toldThread (by decide +kernel))
theorem dX12_toldThread_41 : decode cX12_toldThread 41 = .ok (.ireturn, 1) := dk_172 (dkn dmcX12_toldThread (by decide +kernel))
def dncX12_play : Nat := 0xacbf00b42ada00b5032a61ffa78200b5020400a70607009ec200b42a0f00a705070099c800b42a2a1301b605152a2400a78200b5030400a70707009b1a01b6032a2a1700a02c0111bf00b42a4200a78200b5032a0b009c05154f00a78200b5042a0b009ad700b605152a1400a22c0111bf00b42a1e0099041505361a01b6c500b42a2a0b00a73f01b66004bf00b42a1b2a11009904150436030400a7040700a21dbf00b42a9e009c8200b42a3e60042e64041b7800b42a0d00a70307009a1b8200b5022a1d01b62afa00b51c2ada00b5042aac0205009aa900b8853901b42a09851c110099a900b8851001b42a09851bacfe1006009a2601b42aa400b5032a
theorem dmcX12_play : dkc dncX12_play 255 cX12_play.data.toList 0 = true := by decide +kernel
theorem dX12_play_0 : decode cX12_play 0 = .ok (.aload_n 0, 1) := dk_42 (dkn dmcX12_play (by decide +kernel))
theorem dX12_play_1 : decode cX12_play 1 = .ok (.iconst 0, 1) := dk_3 (dkn dmcX12_play (by decide +kernel))
theorem dX12_play_2 : decode cX12_play 2 = .ok (.putfield 164, 3) := dk_181 (a := 0) (b := 164) (dkn dmcX12_play (by decide +kernel)) rfl
theorem dX12_play_5 : decode cX12_play 5 = .ok (.aload_n 0, 1) := dk_42 (dkn dmcX12_play (by decide +kernel))
theorem dX12_play_6 : decode cX12_play 6 = .ok (.getfield 294, 3) := dk_180 (a := 1) (b := 38) (dkn dmcX12_play (by decide +kernel)) rfl
theorem dX12_play_9 : decode cX12_play 9 = .ok (.ifCond .ne 6, 3) := dk_154 (a := 0) (b := 6) (dkn dmcX12_play (by decide +kernel)) rfl
theorem dX12_play_12 : decode cX12_play 12 = .ok (.bipush (-2), 2) := dk_16 (a := 254) (dkn dmcX12_play (by decide +kernel)) rfl
theorem dX12_play_14 : decode cX12_play 14 = .ok (.ireturn, 1) := dk_172 (dkn dmcX12_play (by decide +kernel))
theorem dX12_play_15 : decode cX12_play 15 = .ok (.iload_n 1, 1) := dk_27 (dkn dmcX12_play (by decide +kernel))
theorem dX12_play_16 : decode cX12_play 16 = .ok (.i2l, 1) := dk_133 (dkn dmcX12_play (by decide +kernel))
theorem dX12_play_17 : decode cX12_play 17 = .ok (.lconst 0, 1) := dk_9 (dkn dmcX12_play (by decide +kernel))
theorem dX12_play_18 : decode cX12_play 18 = .ok (.aload_n 0, 1) := dk_42 (dkn dmcX12_play (by decide +kernel))
theorem dX12_play_19 : decode cX12_play 19 = .ok (.getfield 272, 3) := dk_180 (a := 1) (b := 16) (dkn dmcX12_play (by decide +kernel)) rfl
theorem dX12_play_22 : decode cX12_play 22 = .ok (.i2l, 1) := dk_133 (dkn dmcX12_play (by decide +kernel))
theorem dX12_play_23 : decode cX12_play 23 = .ok (.invokestatic 169, 3) := dk_184 (a := 0) (b := 169) (dkn dmcX12_play (by decide +kernel)) rfl
theorem dX12_play_26 : decode cX12_play 26 = .ok (.ifCond .eq 17, 3) := dk_153 (a := 0) (b := 17) (dkn dmcX12_play (by decide +kernel)) rfl
theorem dX12_play_29 : decode cX12_play 29 = .ok (.iload_n 2, 1) := dk_28 (dkn dmcX12_play (by decide +kernel))
theorem dX12_play_30 : decode cX12_play 30 = .ok (.i2l, 1) := dk_133 (dkn dmcX12_play (by decide +kernel))
theorem dX12_play_31 : decode cX12_play 31 = .ok (.lconst 0, 1) := dk_9 (dkn dmcX12_play (by decide +kernel))
theorem dX12_play_32 : decode cX12_play 32 = .ok (.aload_n 0, 1) := dk_42 (dkn dmcX12_play (by decide +kernel))
theorem dX12_play_33 : decode cX12_play 33 = .ok (.getfield 313, 3) := dk_180 (a := 1) (b := 57) (dkn dmcX12_play (by decide +kernel)) rfl
theorem dX12_play_36 : decode cX12_play 36 = .ok (.i2l, 1) := dk_133 (dkn dmcX12_play (by decide +kernel))
theorem dX12_play_37 : decode cX12_play 37 = .ok (.invokestatic 169, 3) := dk_184 (a := 0) (b := 169) (dkn dmcX12_play (by decide +kernel)) rfl
theorem dX12_play_40 : decode cX12_play 40 = .ok (.ifCond .ne 5, 3) := dk_154 (a := 0) (b := 5) (dkn dmcX12_play (by decide +kernel)) rfl
theorem dX12_play_43 : decode cX12_play 43 = .ok (.iconst (-1), 1) := dk_2 (dkn dmcX12_play (by decide +kernel))
theorem dX12_play_44 : decode cX12_play 44 = .ok (.ireturn, 1) := dk_172 (dkn dmcX12_play (by decide +kernel))
theorem dX12_play_45 : decode cX12_play 45 = .ok (.aload_n 0, 1) := dk_42 (dkn dmcX12_play (by decide +kernel))
theorem dX12_play_46 : decode cX12_play 46 = .ok (.iconst 1, 1) := dk_4 (dkn dmcX12_play (by decide +kernel))
theorem dX12_play_47 : decode cX12_play 47 = .ok (.putfield 218, 3) := dk_181 (a := 0) (b := 218) (dkn dmcX12_play (by decide +kernel)) rfl
theorem dX12_play_50 : decode cX12_play 50 = .ok (.aload_n 0, 1) := dk_42 (dkn dmcX12_play (by decide +kernel))
theorem dX12_play_51 : decode cX12_play 51 = .ok (.iload_n 2, 1) := dk_28 (dkn dmcX12_play (by decide +kernel))
theorem dX12_play_52 : decode cX12_play 52 = .ok (.putfield 250, 3) := dk_181 (a := 0) (b := 250) (dkn dmcX12_play (by decide +kernel)) rfl
theorem dX12_play_55 : decode cX12_play 55 = .ok (.aload_n 0, 1) := dk_42 (dkn dmcX12_play (by decide +kernel))
theorem dX12_play_56 : decode cX12_play 56 = .ok (.invokevirtual 285, 3) := dk_182 (a := 1) (b := 29) (dkn dmcX12_play (by decide +kernel)) rfl
theorem dX12_play_59 : decode cX12_play 59 = .ok (.aload_n 0, 1) := dk_42 (dkn dmcX12_play (by decide +kernel))
theorem dX12_play_60 : decode cX12_play 60 = .ok (.iconst (-1), 1) := dk_2 (dkn dmcX12_play (by decide +kernel))
theorem dX12_play_61 : decode cX12_play 61 = .ok (.putfield 130, 3) := dk_181 (a := 0) (b := 130) (dkn dmcX12_play (by decide +kernel)) rfl
theorem dX12_play_64 : decode cX12_play 64 = .ok (.iload_n 1, 1) := dk_27 (dkn dmcX12_play (by decide +kernel))
theorem dX12_play_65 : decode cX12_play 65 = .ok (.ifCond .ne 7, 3) := dk_154 (a := 0) (b := 7) (dkn dmcX12_play (by decide +kernel)) rfl
theorem dX12_play_68 : decode cX12_play 68 = .ok (.iconst 0, 1) := dk_3 (dkn dmcX12_play (by decide +kernel))
theorem dX12_play_69 : decode cX12_play 69 = .ok (.goto 13, 3) := dk_167 (a := 0) (b := 13) (dkn dmcX12_play (by decide +kernel)) rfl
theorem dX12_play_72 : decode cX12_play 72 = .ok (.aload_n 0, 1) := dk_42 (dkn dmcX12_play (by decide +kernel))
theorem dX12_play_73 : decode cX12_play 73 = .ok (.getfield 120, 3) := dk_180 (a := 0) (b := 120) (dkn dmcX12_play (by decide +kernel)) rfl
theorem dX12_play_76 : decode cX12_play 76 = .ok (.iload_n 1, 1) := dk_27 (dkn dmcX12_play (by decide +kernel))
theorem dX12_play_77 : decode cX12_play 77 = .ok (.iconst 1, 1) := dk_4 (dkn dmcX12_play (by decide +kernel))
theorem dX12_play_78 : decode cX12_play 78 = .ok (.isub, 1) := dk_100 (dkn dmcX12_play (by decide +kernel))
theorem dX12_play_79 : decode cX12_play 79 = .ok (.iaload, 1) := dk_46 (dkn dmcX12_play (by decide +kernel))
theorem dX12_play_80 : decode cX12_play 80 = .ok (.iconst 1, 1) := dk_4 (dkn dmcX12_play (by decide +kernel))
theorem dX12_play_81 : decode cX12_play 81 = .ok (.iadd, 1) := dk_96 (dkn dmcX12_play (by decide +kernel))
theorem dX12_play_82 : decode cX12_play 82 = .ok (.istore_n 3, 1) := dk_62 (dkn dmcX12_play (by decide +kernel))
theorem dX12_play_83 : decode cX12_play 83 = .ok (.aload_n 0, 1) := dk_42 (dkn dmcX12_play (by decide +kernel))
theorem dX12_play_84 : decode cX12_play 84 = .ok (.getfield 130, 3) := dk_180 (a := 0) (b := 130) (dkn dmcX12_play (by decide +kernel)) rfl
theorem dX12_play_87 : decode cX12_play 87 = .ok (.ifCond .ge 158, 3) := dk_156 (a := 0) (b := 158) (dkn dmcX12_play (by decide +kernel)) rfl
theorem dX12_play_90 : decode cX12_play 90 = .ok (.aload_n 0, 1) := dk_42 (dkn dmcX12_play (by decide +kernel))
theorem dX12_play_91 : decode cX12_play 91 = .ok (.getfield 191, 3) := dk_180 (a := 0) (b := 191) (dkn dmcX12_play (by decide +kernel)) rfl
theorem dX12_play_94 : decode cX12_play 94 = .ok (.iload_n 3, 1) := dk_29 (dkn dmcX12_play (by decide +kernel))
theorem dX12_play_95 : decode cX12_play 95 = .ok (.if_icmp .ge 7, 3) := dk_162 (a := 0) (b := 7) (dkn dmcX12_play (by decide +kernel)) rfl
theorem dX12_play_98 : decode cX12_play 98 = .ok (.iconst 1, 1) := dk_4 (dkn dmcX12_play (by decide +kernel))
theorem dX12_play_99 : decode cX12_play 99 = .ok (.goto 4, 3) := dk_167 (a := 0) (b := 4) (dkn dmcX12_play (by decide +kernel)) rfl
theorem dX12_play_102 : decode cX12_play 102 = .ok (.iconst 0, 1) := dk_3 (dkn dmcX12_play (by decide +kernel))
theorem dX12_play_103 : decode cX12_play 103 = .ok (.istore 4, 2) := dk_54 (dkn dmcX12_play (by decide +kernel))
theorem dX12_play_105 : decode cX12_play 105 = .ok (.iload 4, 2) := dk_21 (dkn dmcX12_play (by decide +kernel))
theorem dX12_play_107 : decode cX12_play 107 = .ok (.ifCond .eq 17, 3) := dk_153 (a := 0) (b := 17) (dkn dmcX12_play (by decide +kernel)) rfl
theorem dX12_play_110 : decode cX12_play 110 = .ok (.aload_n 0, 1) := dk_42 (dkn dmcX12_play (by decide +kernel))
theorem dX12_play_111 : decode cX12_play 111 = .ok (.iload_n 1, 1) := dk_27 (dkn dmcX12_play (by decide +kernel))
theorem dX12_play_112 : decode cX12_play 112 = .ok (.aload_n 0, 1) := dk_42 (dkn dmcX12_play (by decide +kernel))
theorem dX12_play_113 : decode cX12_play 113 = .ok (.getfield 191, 3) := dk_180 (a := 0) (b := 191) (dkn dmcX12_play (by decide +kernel)) rfl
theorem dX12_play_116 : decode cX12_play 116 = .ok (.iconst 1, 1) := dk_4 (dkn dmcX12_play (by decide +kernel))
theorem dX12_play_117 : decode cX12_play 117 = .ok (.iadd, 1) := dk_96 (dkn dmcX12_play (by decide +kernel))
theorem dX12_play_118 : decode cX12_play 118 = .ok (.invokevirtual 319, 3) := dk_182 (a := 1) (b := 63) (dkn dmcX12_play (by decide +kernel)) rfl
theorem dX12_play_121 : decode cX12_play 121 = .ok (.goto 11, 3) := dk_167 (a := 0) (b := 11) (dkn dmcX12_play (by decide +kernel)) rfl
theorem dX12_play_124 : decode cX12_play 124 = .ok (.aload_n 0, 1) := dk_42 (dkn dmcX12_play (by decide +kernel))
theorem dX12_play_125 : decode cX12_play 125 = .ok (.aload_n 0, 1) := dk_42 (dkn dmcX12_play (by decide +kernel))
theorem dX12_play_126 : decode cX12_play 126 = .ok (.getfield 197, 3) := dk_180 (a := 0) (b := 197) (dkn dmcX12_play (by decide +kernel)) rfl
theorem dX12_play_129 : decode cX12_play 129 = .ok (.invokevirtual 282, 3) := dk_182 (a := 1) (b := 26) (dkn dmcX12_play (by decide +kernel)) rfl
theorem dX12_play_132 : decode cX12_play 132 = .ok (.istore 5, 2) := dk_54 (dkn dmcX12_play (by decide +kernel))
theorem dX12_play_134 : decode cX12_play 134 = .ok (.iload 4, 2) := dk_21 (dkn dmcX12_play (by decide +kernel))
theorem dX12_play_136 : decode cX12_play 136 = .ok (.ifCond .eq 30, 3) := dk_153 (a := 0) (b := 30) (dkn dmcX12_play (by decide +kernel)) rfl
theorem dX12_play_139 : decode cX12_play 139 = .ok (.aload_n 0, 1) := dk_42 (dkn dmcX12_play (by decide +kernel))
theorem dX12_play_140 : decode cX12_play 140 = .ok (.getfield 191, 3) := dk_180 (a := 0) (b := 191) (dkn dmcX12_play (by decide +kernel)) rfl
theorem dX12_play_143 : decode cX12_play 143 = .ok (.sipush 300, 3) := dk_17 (a := 1) (b := 44) (dkn dmcX12_play (by decide +kernel)) rfl
theorem dX12_play_146 : decode cX12_play 146 = .ok (.if_icmp .ge 20, 3) := dk_162 (a := 0) (b := 20) (dkn dmcX12_play (by decide +kernel)) rfl
theorem dX12_play_149 : decode cX12_play 149 = .ok (.aload_n 0, 1) := dk_42 (dkn dmcX12_play (by decide +kernel))
theorem dX12_play_150 : decode cX12_play 150 = .ok (.iload 5, 2) := dk_21 (dkn dmcX12_play (by decide +kernel))
theorem dX12_play_152 : decode cX12_play 152 = .ok (.invokevirtual 215, 3) := dk_182 (a := 0) (b := 215) (dkn dmcX12_play (by decide +kernel)) rfl
theorem dX12_play_155 : decode cX12_play 155 = .ok (.ifCond .ne 11, 3) := dk_154 (a := 0) (b := 11) (dkn dmcX12_play (by decide +kernel)) rfl
theorem dX12_play_158 : decode cX12_play 158 = .ok (.aload_n 0, 1) := dk_42 (dkn dmcX12_play (by decide +kernel))
theorem dX12_play_159 : decode cX12_play 159 = .ok (.iconst 1, 1) := dk_4 (dkn dmcX12_play (by decide +kernel))
theorem dX12_play_160 : decode cX12_play 160 = .ok (.putfield 130, 3) := dk_181 (a := 0) (b := 130) (dkn dmcX12_play (by decide +kernel)) rfl
theorem dX12_play_163 : decode cX12_play 163 = .ok (.goto 79, 3) := dk_167 (a := 0) (b := 79) (dkn dmcX12_play (by decide +kernel)) rfl
theorem dX12_play_166 : decode cX12_play 166 = .ok (.iload 5, 2) := dk_21 (dkn dmcX12_play (by decide +kernel))
theorem dX12_play_168 : decode cX12_play 168 = .ok (.ifCond .ge 11, 3) := dk_156 (a := 0) (b := 11) (dkn dmcX12_play (by decide +kernel)) rfl
theorem dX12_play_171 : decode cX12_play 171 = .ok (.aload_n 0, 1) := dk_42 (dkn dmcX12_play (by decide +kernel))
theorem dX12_play_172 : decode cX12_play 172 = .ok (.iconst 0, 1) := dk_3 (dkn dmcX12_play (by decide +kernel))
theorem dX12_play_173 : decode cX12_play 173 = .ok (.putfield 130, 3) := dk_181 (a := 0) (b := 130) (dkn dmcX12_play (by decide +kernel)) rfl
theorem dX12_play_176 : decode cX12_play 176 = .ok (.goto 66, 3) := dk_167 (a := 0) (b := 66) (dkn dmcX12_play (by decide +kernel)) rfl
theorem dX12_play_179 : decode cX12_play 179 = .ok (.aload_n 0, 1) := dk_42 (dkn dmcX12_play (by decide +kernel))
theorem dX12_play_180 : decode cX12_play 180 = .ok (.getfield 191, 3) := dk_180 (a := 0) (b := 191) (dkn dmcX12_play (by decide +kernel)) rfl
theorem dX12_play_183 : decode cX12_play 183 = .ok (.sipush 300, 3) := dk_17 (a := 1) (b := 44) (dkn dmcX12_play (by decide +kernel)) rfl
theorem dX12_play_186 : decode cX12_play 186 = .ok (.if_icmp .ne 23, 3) := dk_160 (a := 0) (b := 23) (dkn dmcX12_play (by decide +kernel)) rfl
theorem dX12_play_189 : decode cX12_play 189 = .ok (.aload_n 0, 1) := dk_42 (dkn dmcX12_play (by decide +kernel))
theorem dX12_play_190 : decode cX12_play 190 = .ok (.aload_n 0, 1) := dk_42 (dkn dmcX12_play (by decide +kernel))
theorem dX12_play_191 : decode cX12_play 191 = .ok (.iconst 0, 1) := dk_3 (dkn dmcX12_play (by decide +kernel))
theorem dX12_play_192 : decode cX12_play 192 = .ok (.invokevirtual 282, 3) := dk_182 (a := 1) (b := 26) (dkn dmcX12_play (by decide +kernel)) rfl
theorem dX12_play_195 : decode cX12_play 195 = .ok (.ifCond .lt 7, 3) := dk_155 (a := 0) (b := 7) (dkn dmcX12_play (by decide +kernel)) rfl
theorem dX12_play_198 : decode cX12_play 198 = .ok (.iconst 4, 1) := dk_7 (dkn dmcX12_play (by decide +kernel))
theorem dX12_play_199 : decode cX12_play 199 = .ok (.goto 4, 3) := dk_167 (a := 0) (b := 4) (dkn dmcX12_play (by decide +kernel)) rfl
theorem dX12_play_202 : decode cX12_play 202 = .ok (.iconst 0, 1) := dk_3 (dkn dmcX12_play (by decide +kernel))
theorem dX12_play_203 : decode cX12_play 203 = .ok (.putfield 130, 3) := dk_181 (a := 0) (b := 130) (dkn dmcX12_play (by decide +kernel)) rfl
theorem dX12_play_206 : decode cX12_play 206 = .ok (.goto 36, 3) := dk_167 (a := 0) (b := 36) (dkn dmcX12_play (by decide +kernel)) rfl
theorem dX12_play_209 : decode cX12_play 209 = .ok (.aload_n 0, 1) := dk_42 (dkn dmcX12_play (by decide +kernel))
theorem dX12_play_210 : decode cX12_play 210 = .ok (.iload 5, 2) := dk_21 (dkn dmcX12_play (by decide +kernel))
theorem dX12_play_212 : decode cX12_play 212 = .ok (.invokevirtual 275, 3) := dk_182 (a := 1) (b := 19) (dkn dmcX12_play (by decide +kernel)) rfl
theorem dX12_play_215 : decode cX12_play 215 = .ok (.aload_n 0, 1) := dk_42 (dkn dmcX12_play (by decide +kernel))
theorem dX12_play_216 : decode cX12_play 216 = .ok (.aload_n 0, 1) := dk_42 (dkn dmcX12_play (by decide +kernel))
theorem dX12_play_217 : decode cX12_play 217 = .ok (.getfield 200, 3) := dk_180 (a := 0) (b := 200) (dkn dmcX12_play (by decide +kernel)) rfl
theorem dX12_play_220 : decode cX12_play 220 = .ok (.ifCond .eq 7, 3) := dk_153 (a := 0) (b := 7) (dkn dmcX12_play (by decide +kernel)) rfl
theorem dX12_play_223 : decode cX12_play 223 = .ok (.iconst 2, 1) := dk_5 (dkn dmcX12_play (by decide +kernel))
theorem dX12_play_224 : decode cX12_play 224 = .ok (.goto 15, 3) := dk_167 (a := 0) (b := 15) (dkn dmcX12_play (by decide +kernel)) rfl
theorem dX12_play_227 : decode cX12_play 227 = .ok (.aload_n 0, 1) := dk_42 (dkn dmcX12_play (by decide +kernel))
theorem dX12_play_228 : decode cX12_play 228 = .ok (.getfield 194, 3) := dk_180 (a := 0) (b := 194) (dkn dmcX12_play (by decide +kernel)) rfl
theorem dX12_play_231 : decode cX12_play 231 = .ok (.ifCond .le 7, 3) := dk_158 (a := 0) (b := 7) (dkn dmcX12_play (by decide +kernel)) rfl
theorem dX12_play_234 : decode cX12_play 234 = .ok (.iconst 3, 1) := dk_6 (dkn dmcX12_play (by decide +kernel))
theorem dX12_play_235 : decode cX12_play 235 = .ok (.goto 4, 3) := dk_167 (a := 0) (b := 4) (dkn dmcX12_play (by decide +kernel)) rfl
theorem dX12_play_238 : decode cX12_play 238 = .ok (.iconst (-1), 1) := dk_2 (dkn dmcX12_play (by decide +kernel))
theorem dX12_play_239 : decode cX12_play 239 = .ok (.putfield 130, 3) := dk_181 (a := 0) (b := 130) (dkn dmcX12_play (by decide +kernel)) rfl
theorem dX12_play_242 : decode cX12_play 242 = .ok (.goto (-159), 3) := dk_167 (a := 255) (b := 97) (dkn dmcX12_play (by decide +kernel)) rfl
theorem dX12_play_245 : decode cX12_play 245 = .ok (.aload_n 0, 1) := dk_42 (dkn dmcX12_play (by decide +kernel))
theorem dX12_play_246 : decode cX12_play 246 = .ok (.iconst 0, 1) := dk_3 (dkn dmcX12_play (by decide +kernel))
theorem dX12_play_247 : decode cX12_play 247 = .ok (.putfield 218, 3) := dk_181 (a := 0) (b := 218) (dkn dmcX12_play (by decide +kernel)) rfl
theorem dX12_play_250 : decode cX12_play 250 = .ok (.aload_n 0, 1) := dk_42 (dkn dmcX12_play (by decide +kernel))
theorem dX12_play_251 : decode cX12_play 251 = .ok (.getfield 191, 3) := dk_180 (a := 0) (b := 191) (dkn dmcX12_play (by decide +kernel)) rfl
theorem dX12_play_254 : decode cX12_play 254 = .ok (.ireturn, 1) := dk_172 (dkn dmcX12_play (by decide +kernel))
theorem dX12_ended_0 : decode cX12_ended 0 = .ok (.aload_n 0, 1) := dk_42 (by decide +kernel)
theorem dX12_ended_1 : decode cX12_ended 1 = .ok (.iconst 0, 1) := dk_3 (by decide +kernel)
theorem dX12_ended_2 : decode cX12_ended 2 = .ok (.putfield 164, 3) := dk_181 (a := 0) (b := 164) (by decide +kernel) rfl
theorem dX12_ended_5 : decode cX12_ended 5 = .ok (.aload_n 0, 1) := dk_42 (by decide +kernel)
theorem dX12_ended_6 : decode cX12_ended 6 = .ok (.getfield 130, 3) := dk_180 (a := 0) (b := 130) (by decide +kernel) rfl
theorem dX12_ended_9 : decode cX12_ended 9 = .ok (.ireturn, 1) := dk_172 (by decide +kernel)
def dncX12_to : Nat := 0xac1b3c01b51b2aac0205009aa900b8853001b42a09851bacfe1006009a2601b42aa400b5032a
theorem dmcX12_to : dkc dncX12_to 38 cX12_to.data.toList 0 = true := by decide +kernel
theorem dX12_to_0 : decode cX12_to 0 = .ok (.aload_n 0, 1) := dk_42 (dkn dmcX12_to (by decide +kernel))
theorem dX12_to_1 : decode cX12_to 1 = .ok (.iconst 0, 1) := dk_3 (dkn dmcX12_to (by decide +kernel))
theorem dX12_to_2 : decode cX12_to 2 = .ok (.putfield 164, 3) := dk_181 (a := 0) (b := 164) (dkn dmcX12_to (by decide +kernel)) rfl
theorem dX12_to_5 : decode cX12_to 5 = .ok (.aload_n 0, 1) := dk_42 (dkn dmcX12_to (by decide +kernel))
theorem dX12_to_6 : decode cX12_to 6 = .ok (.getfield 294, 3) := dk_180 (a := 1) (b := 38) (dkn dmcX12_to (by decide +kernel)) rfl
theorem dX12_to_9 : decode cX12_to 9 = .ok (.ifCond .ne 6, 3) := dk_154 (a := 0) (b := 6) (dkn dmcX12_to (by decide +kernel)) rfl
theorem dX12_to_12 : decode cX12_to 12 = .ok (.bipush (-2), 2) := dk_16 (a := 254) (dkn dmcX12_to (by decide +kernel)) rfl
theorem dX12_to_14 : decode cX12_to 14 = .ok (.ireturn, 1) := dk_172 (dkn dmcX12_to (by decide +kernel))
theorem dX12_to_15 : decode cX12_to 15 = .ok (.iload_n 1, 1) := dk_27 (dkn dmcX12_to (by decide +kernel))
theorem dX12_to_16 : decode cX12_to 16 = .ok (.i2l, 1) := dk_133 (dkn dmcX12_to (by decide +kernel))
theorem dX12_to_17 : decode cX12_to 17 = .ok (.lconst 0, 1) := dk_9 (dkn dmcX12_to (by decide +kernel))
theorem dX12_to_18 : decode cX12_to 18 = .ok (.aload_n 0, 1) := dk_42 (dkn dmcX12_to (by decide +kernel))
theorem dX12_to_19 : decode cX12_to 19 = .ok (.getfield 304, 3) := dk_180 (a := 1) (b := 48) (dkn dmcX12_to (by decide +kernel)) rfl
theorem dX12_to_22 : decode cX12_to 22 = .ok (.i2l, 1) := dk_133 (dkn dmcX12_to (by decide +kernel))
theorem dX12_to_23 : decode cX12_to 23 = .ok (.invokestatic 169, 3) := dk_184 (a := 0) (b := 169) (dkn dmcX12_to (by decide +kernel)) rfl
theorem dX12_to_26 : decode cX12_to 26 = .ok (.ifCond .ne 5, 3) := dk_154 (a := 0) (b := 5) (dkn dmcX12_to (by decide +kernel)) rfl
theorem dX12_to_29 : decode cX12_to 29 = .ok (.iconst (-1), 1) := dk_2 (dkn dmcX12_to (by decide +kernel))
theorem dX12_to_30 : decode cX12_to 30 = .ok (.ireturn, 1) := dk_172 (dkn dmcX12_to (by decide +kernel))
theorem dX12_to_31 : decode cX12_to 31 = .ok (.aload_n 0, 1) := dk_42 (dkn dmcX12_to (by decide +kernel))
theorem dX12_to_32 : decode cX12_to 32 = .ok (.iload_n 1, 1) := dk_27 (dkn dmcX12_to (by decide +kernel))
theorem dX12_to_33 : decode cX12_to 33 = .ok (.putfield 316, 3) := dk_181 (a := 1) (b := 60) (dkn dmcX12_to (by decide +kernel)) rfl
theorem dX12_to_36 : decode cX12_to 36 = .ok (.iload_n 1, 1) := dk_27 (dkn dmcX12_to (by decide +kernel))
theorem dX12_to_37 : decode cX12_to 37 = .ok (.ireturn, 1) := dk_172 (dkn dmcX12_to (by decide +kernel))
def dncX12_back : Nat := 0xac3c01b42a3c01b5641b3c01b4592aac020500a43c01b42a1b0b009b1bacfe1006009a2601b42aa400b5032a
theorem dmcX12_back : dkc dncX12_back 44 cX12_back.data.toList 0 = true := by decide +kernel
theorem dX12_back_0 : decode cX12_back 0 = .ok (.aload_n 0, 1) := dk_42 (dkn dmcX12_back (by decide +kernel))
theorem dX12_back_1 : decode cX12_back 1 = .ok (.iconst 0, 1) := dk_3 (dkn dmcX12_back (by decide +kernel))
theorem dX12_back_2 : decode cX12_back 2 = .ok (.putfield 164, 3) := dk_181 (a := 0) (b := 164) (dkn dmcX12_back (by decide +kernel)) rfl
theorem dX12_back_5 : decode cX12_back 5 = .ok (.aload_n 0, 1) := dk_42 (dkn dmcX12_back (by decide +kernel))
theorem dX12_back_6 : decode cX12_back 6 = .ok (.getfield 294, 3) := dk_180 (a := 1) (b := 38) (dkn dmcX12_back (by decide +kernel)) rfl
theorem dX12_back_9 : decode cX12_back 9 = .ok (.ifCond .ne 6, 3) := dk_154 (a := 0) (b := 6) (dkn dmcX12_back (by decide +kernel)) rfl
theorem dX12_back_12 : decode cX12_back 12 = .ok (.bipush (-2), 2) := dk_16 (a := 254) (dkn dmcX12_back (by decide +kernel)) rfl
theorem dX12_back_14 : decode cX12_back 14 = .ok (.ireturn, 1) := dk_172 (dkn dmcX12_back (by decide +kernel))
theorem dX12_back_15 : decode cX12_back 15 = .ok (.iload_n 1, 1) := dk_27 (dkn dmcX12_back (by decide +kernel))
theorem dX12_back_16 : decode cX12_back 16 = .ok (.ifCond .lt 11, 3) := dk_155 (a := 0) (b := 11) (dkn dmcX12_back (by decide +kernel)) rfl
theorem dX12_back_19 : decode cX12_back 19 = .ok (.iload_n 1, 1) := dk_27 (dkn dmcX12_back (by decide +kernel))
theorem dX12_back_20 : decode cX12_back 20 = .ok (.aload_n 0, 1) := dk_42 (dkn dmcX12_back (by decide +kernel))
theorem dX12_back_21 : decode cX12_back 21 = .ok (.getfield 316, 3) := dk_180 (a := 1) (b := 60) (dkn dmcX12_back (by decide +kernel)) rfl
theorem dX12_back_24 : decode cX12_back 24 = .ok (.if_icmp .le 5, 3) := dk_164 (a := 0) (b := 5) (dkn dmcX12_back (by decide +kernel)) rfl
theorem dX12_back_27 : decode cX12_back 27 = .ok (.iconst (-1), 1) := dk_2 (dkn dmcX12_back (by decide +kernel))
theorem dX12_back_28 : decode cX12_back 28 = .ok (.ireturn, 1) := dk_172 (dkn dmcX12_back (by decide +kernel))
theorem dX12_back_29 : decode cX12_back 29 = .ok (.aload_n 0, 1) := dk_42 (dkn dmcX12_back (by decide +kernel))
theorem dX12_back_30 : decode cX12_back 30 = .ok (.dup, 1) := dk_89 (dkn dmcX12_back (by decide +kernel))
theorem dX12_back_31 : decode cX12_back 31 = .ok (.getfield 316, 3) := dk_180 (a := 1) (b := 60) (dkn dmcX12_back (by decide +kernel)) rfl
theorem dX12_back_34 : decode cX12_back 34 = .ok (.iload_n 1, 1) := dk_27 (dkn dmcX12_back (by decide +kernel))
theorem dX12_back_35 : decode cX12_back 35 = .ok (.isub, 1) := dk_100 (dkn dmcX12_back (by decide +kernel))
theorem dX12_back_36 : decode cX12_back 36 = .ok (.putfield 316, 3) := dk_181 (a := 1) (b := 60) (dkn dmcX12_back (by decide +kernel)) rfl
theorem dX12_back_39 : decode cX12_back 39 = .ok (.aload_n 0, 1) := dk_42 (dkn dmcX12_back (by decide +kernel))
theorem dX12_back_40 : decode cX12_back 40 = .ok (.getfield 316, 3) := dk_180 (a := 1) (b := 60) (dkn dmcX12_back (by decide +kernel)) rfl
theorem dX12_back_43 : decode cX12_back 43 = .ok (.ireturn, 1) := dk_172 (dkn dmcX12_back (by decide +kernel))
def dncX12_value : Nat := 0xac2e05154700b42a0a00a72e05154400b42a0d009a1d053660601c60681b070c100b00a71c0700a0021b683c01b42a1c10ac0305009ea400b42aa400b5040400a70307009904150d00a70507009a2601b42a2a0436030400a704070099a900b8a7001409851c130099a900b8a7001409851b1b00a7220099a900b8af001409851c1200a0021b330099a900b80a09851d
theorem dmcX12_value : dkc dncX12_value 144 cX12_value.data.toList 0 = true := by decide +kernel
theorem dX12_value_0 : decode cX12_value 0 = .ok (.iload_n 3, 1) := dk_29 (dkn dmcX12_value (by decide +kernel))
theorem dX12_value_1 : decode cX12_value 1 = .ok (.i2l, 1) := dk_133 (dkn dmcX12_value (by decide +kernel))
theorem dX12_value_2 : decode cX12_value 2 = .ok (.lconst 0, 1) := dk_9 (dkn dmcX12_value (by decide +kernel))
theorem dX12_value_3 : decode cX12_value 3 = .ok (.lconst 1, 1) := dk_10 (dkn dmcX12_value (by decide +kernel))
theorem dX12_value_4 : decode cX12_value 4 = .ok (.invokestatic 169, 3) := dk_184 (a := 0) (b := 169) (dkn dmcX12_value (by decide +kernel)) rfl
theorem dX12_value_7 : decode cX12_value 7 = .ok (.ifCond .eq 51, 3) := dk_153 (a := 0) (b := 51) (dkn dmcX12_value (by decide +kernel)) rfl
theorem dX12_value_10 : decode cX12_value 10 = .ok (.iload_n 1, 1) := dk_27 (dkn dmcX12_value (by decide +kernel))
theorem dX12_value_11 : decode cX12_value 11 = .ok (.iconst (-1), 1) := dk_2 (dkn dmcX12_value (by decide +kernel))
theorem dX12_value_12 : decode cX12_value 12 = .ok (.if_icmp .ne 18, 3) := dk_160 (a := 0) (b := 18) (dkn dmcX12_value (by decide +kernel)) rfl
theorem dX12_value_15 : decode cX12_value 15 = .ok (.iload_n 2, 1) := dk_28 (dkn dmcX12_value (by decide +kernel))
theorem dX12_value_16 : decode cX12_value 16 = .ok (.i2l, 1) := dk_133 (dkn dmcX12_value (by decide +kernel))
theorem dX12_value_17 : decode cX12_value 17 = .ok (.lconst 0, 1) := dk_9 (dkn dmcX12_value (by decide +kernel))
theorem dX12_value_18 : decode cX12_value 18 = .ok (.ldc2_w 175, 3) := dk_20 (a := 0) (b := 175) (dkn dmcX12_value (by decide +kernel)) rfl
theorem dX12_value_21 : decode cX12_value 21 = .ok (.invokestatic 169, 3) := dk_184 (a := 0) (b := 169) (dkn dmcX12_value (by decide +kernel)) rfl
theorem dX12_value_24 : decode cX12_value 24 = .ok (.ifCond .eq 34, 3) := dk_153 (a := 0) (b := 34) (dkn dmcX12_value (by decide +kernel)) rfl
theorem dX12_value_27 : decode cX12_value 27 = .ok (.goto 27, 3) := dk_167 (a := 0) (b := 27) (dkn dmcX12_value (by decide +kernel)) rfl
theorem dX12_value_30 : decode cX12_value 30 = .ok (.iload_n 1, 1) := dk_27 (dkn dmcX12_value (by decide +kernel))
theorem dX12_value_31 : decode cX12_value 31 = .ok (.i2l, 1) := dk_133 (dkn dmcX12_value (by decide +kernel))
theorem dX12_value_32 : decode cX12_value 32 = .ok (.lconst 0, 1) := dk_9 (dkn dmcX12_value (by decide +kernel))
theorem dX12_value_33 : decode cX12_value 33 = .ok (.ldc2_w 167, 3) := dk_20 (a := 0) (b := 167) (dkn dmcX12_value (by decide +kernel)) rfl
theorem dX12_value_36 : decode cX12_value 36 = .ok (.invokestatic 169, 3) := dk_184 (a := 0) (b := 169) (dkn dmcX12_value (by decide +kernel)) rfl
theorem dX12_value_39 : decode cX12_value 39 = .ok (.ifCond .eq 19, 3) := dk_153 (a := 0) (b := 19) (dkn dmcX12_value (by decide +kernel)) rfl
theorem dX12_value_42 : decode cX12_value 42 = .ok (.iload_n 2, 1) := dk_28 (dkn dmcX12_value (by decide +kernel))
theorem dX12_value_43 : decode cX12_value 43 = .ok (.i2l, 1) := dk_133 (dkn dmcX12_value (by decide +kernel))
theorem dX12_value_44 : decode cX12_value 44 = .ok (.lconst 0, 1) := dk_9 (dkn dmcX12_value (by decide +kernel))
theorem dX12_value_45 : decode cX12_value 45 = .ok (.ldc2_w 167, 3) := dk_20 (a := 0) (b := 167) (dkn dmcX12_value (by decide +kernel)) rfl
theorem dX12_value_48 : decode cX12_value 48 = .ok (.invokestatic 169, 3) := dk_184 (a := 0) (b := 169) (dkn dmcX12_value (by decide +kernel)) rfl
theorem dX12_value_51 : decode cX12_value 51 = .ok (.ifCond .eq 7, 3) := dk_153 (a := 0) (b := 7) (dkn dmcX12_value (by decide +kernel)) rfl
theorem dX12_value_54 : decode cX12_value 54 = .ok (.iconst 1, 1) := dk_4 (dkn dmcX12_value (by decide +kernel))
theorem dX12_value_55 : decode cX12_value 55 = .ok (.goto 4, 3) := dk_167 (a := 0) (b := 4) (dkn dmcX12_value (by decide +kernel)) rfl
theorem dX12_value_58 : decode cX12_value 58 = .ok (.iconst 0, 1) := dk_3 (dkn dmcX12_value (by decide +kernel))
theorem dX12_value_59 : decode cX12_value 59 = .ok (.istore 4, 2) := dk_54 (dkn dmcX12_value (by decide +kernel))
theorem dX12_value_61 : decode cX12_value 61 = .ok (.aload_n 0, 1) := dk_42 (dkn dmcX12_value (by decide +kernel))
theorem dX12_value_62 : decode cX12_value 62 = .ok (.aload_n 0, 1) := dk_42 (dkn dmcX12_value (by decide +kernel))
theorem dX12_value_63 : decode cX12_value 63 = .ok (.getfield 294, 3) := dk_180 (a := 1) (b := 38) (dkn dmcX12_value (by decide +kernel)) rfl
theorem dX12_value_66 : decode cX12_value 66 = .ok (.ifCond .ne 7, 3) := dk_154 (a := 0) (b := 7) (dkn dmcX12_value (by decide +kernel)) rfl
theorem dX12_value_69 : decode cX12_value 69 = .ok (.iconst 2, 1) := dk_5 (dkn dmcX12_value (by decide +kernel))
theorem dX12_value_70 : decode cX12_value 70 = .ok (.goto 13, 3) := dk_167 (a := 0) (b := 13) (dkn dmcX12_value (by decide +kernel)) rfl
theorem dX12_value_73 : decode cX12_value 73 = .ok (.iload 4, 2) := dk_21 (dkn dmcX12_value (by decide +kernel))
theorem dX12_value_75 : decode cX12_value 75 = .ok (.ifCond .eq 7, 3) := dk_153 (a := 0) (b := 7) (dkn dmcX12_value (by decide +kernel)) rfl
theorem dX12_value_78 : decode cX12_value 78 = .ok (.iconst 0, 1) := dk_3 (dkn dmcX12_value (by decide +kernel))
theorem dX12_value_79 : decode cX12_value 79 = .ok (.goto 4, 3) := dk_167 (a := 0) (b := 4) (dkn dmcX12_value (by decide +kernel)) rfl
theorem dX12_value_82 : decode cX12_value 82 = .ok (.iconst 1, 1) := dk_4 (dkn dmcX12_value (by decide +kernel))
theorem dX12_value_83 : decode cX12_value 83 = .ok (.putfield 164, 3) := dk_181 (a := 0) (b := 164) (dkn dmcX12_value (by decide +kernel)) rfl
theorem dX12_value_86 : decode cX12_value 86 = .ok (.aload_n 0, 1) := dk_42 (dkn dmcX12_value (by decide +kernel))
theorem dX12_value_87 : decode cX12_value 87 = .ok (.getfield 164, 3) := dk_180 (a := 0) (b := 164) (dkn dmcX12_value (by decide +kernel)) rfl
theorem dX12_value_90 : decode cX12_value 90 = .ok (.ifCond .le 5, 3) := dk_158 (a := 0) (b := 5) (dkn dmcX12_value (by decide +kernel)) rfl
theorem dX12_value_93 : decode cX12_value 93 = .ok (.iconst 0, 1) := dk_3 (dkn dmcX12_value (by decide +kernel))
theorem dX12_value_94 : decode cX12_value 94 = .ok (.ireturn, 1) := dk_172 (dkn dmcX12_value (by decide +kernel))
theorem dX12_value_95 : decode cX12_value 95 = .ok (.bipush 28, 2) := dk_16 (a := 28) (dkn dmcX12_value (by decide +kernel)) rfl
theorem dX12_value_97 : decode cX12_value 97 = .ok (.aload_n 0, 1) := dk_42 (dkn dmcX12_value (by decide +kernel))
theorem dX12_value_98 : decode cX12_value 98 = .ok (.getfield 316, 3) := dk_180 (a := 1) (b := 60) (dkn dmcX12_value (by decide +kernel)) rfl
theorem dX12_value_101 : decode cX12_value 101 = .ok (.imul, 1) := dk_104 (dkn dmcX12_value (by decide +kernel))
theorem dX12_value_102 : decode cX12_value 102 = .ok (.iload_n 1, 1) := dk_27 (dkn dmcX12_value (by decide +kernel))
theorem dX12_value_103 : decode cX12_value 103 = .ok (.iconst (-1), 1) := dk_2 (dkn dmcX12_value (by decide +kernel))
theorem dX12_value_104 : decode cX12_value 104 = .ok (.if_icmp .ne 7, 3) := dk_160 (a := 0) (b := 7) (dkn dmcX12_value (by decide +kernel)) rfl
theorem dX12_value_107 : decode cX12_value 107 = .ok (.iload_n 2, 1) := dk_28 (dkn dmcX12_value (by decide +kernel))
theorem dX12_value_108 : decode cX12_value 108 = .ok (.goto 11, 3) := dk_167 (a := 0) (b := 11) (dkn dmcX12_value (by decide +kernel)) rfl
theorem dX12_value_111 : decode cX12_value 111 = .ok (.bipush 12, 2) := dk_16 (a := 12) (dkn dmcX12_value (by decide +kernel)) rfl
theorem dX12_value_113 : decode cX12_value 113 = .ok (.iconst 4, 1) := dk_7 (dkn dmcX12_value (by decide +kernel))
theorem dX12_value_114 : decode cX12_value 114 = .ok (.iload_n 1, 1) := dk_27 (dkn dmcX12_value (by decide +kernel))
theorem dX12_value_115 : decode cX12_value 115 = .ok (.imul, 1) := dk_104 (dkn dmcX12_value (by decide +kernel))
theorem dX12_value_116 : decode cX12_value 116 = .ok (.iadd, 1) := dk_96 (dkn dmcX12_value (by decide +kernel))
theorem dX12_value_117 : decode cX12_value 117 = .ok (.iload_n 2, 1) := dk_28 (dkn dmcX12_value (by decide +kernel))
theorem dX12_value_118 : decode cX12_value 118 = .ok (.iadd, 1) := dk_96 (dkn dmcX12_value (by decide +kernel))
theorem dX12_value_119 : decode cX12_value 119 = .ok (.iadd, 1) := dk_96 (dkn dmcX12_value (by decide +kernel))
theorem dX12_value_120 : decode cX12_value 120 = .ok (.istore 5, 2) := dk_54 (dkn dmcX12_value (by decide +kernel))
theorem dX12_value_122 : decode cX12_value 122 = .ok (.iload_n 3, 1) := dk_29 (dkn dmcX12_value (by decide +kernel))
theorem dX12_value_123 : decode cX12_value 123 = .ok (.ifCond .ne 13, 3) := dk_154 (a := 0) (b := 13) (dkn dmcX12_value (by decide +kernel)) rfl
theorem dX12_value_126 : decode cX12_value 126 = .ok (.aload_n 0, 1) := dk_42 (dkn dmcX12_value (by decide +kernel))
theorem dX12_value_127 : decode cX12_value 127 = .ok (.getfield 68, 3) := dk_180 (a := 0) (b := 68) (dkn dmcX12_value (by decide +kernel)) rfl
theorem dX12_value_130 : decode cX12_value 130 = .ok (.iload 5, 2) := dk_21 (dkn dmcX12_value (by decide +kernel))
theorem dX12_value_132 : decode cX12_value 132 = .ok (.iaload, 1) := dk_46 (dkn dmcX12_value (by decide +kernel))
theorem dX12_value_133 : decode cX12_value 133 = .ok (.goto 10, 3) := dk_167 (a := 0) (b := 10) (dkn dmcX12_value (by decide +kernel)) rfl
theorem dX12_value_136 : decode cX12_value 136 = .ok (.aload_n 0, 1) := dk_42 (dkn dmcX12_value (by decide +kernel))
theorem dX12_value_137 : decode cX12_value 137 = .ok (.getfield 71, 3) := dk_180 (a := 0) (b := 71) (dkn dmcX12_value (by decide +kernel)) rfl
theorem dX12_value_140 : decode cX12_value 140 = .ok (.iload 5, 2) := dk_21 (dkn dmcX12_value (by decide +kernel))
theorem dX12_value_142 : decode cX12_value 142 = .ok (.iaload, 1) := dk_46 (dkn dmcX12_value (by decide +kernel))
theorem dX12_value_143 : decode cX12_value 143 = .ok (.ireturn, 1) := dk_172 (dkn dmcX12_value (by decide +kernel))
def dncX12_isThing : Nat := 0xac030400a7040700a22e3c01b42a5000b42a1b14009b1b1800992601b42a
theorem dmcX12_isThing : dkc dncX12_isThing 30 cX12_isThing.data.toList 0 = true := by decide +kernel
theorem dX12_isThing_0 : decode cX12_isThing 0 = .ok (.aload_n 0, 1) := dk_42 (dkn dmcX12_isThing (by decide +kernel))
theorem dX12_isThing_1 : decode cX12_isThing 1 = .ok (.getfield 294, 3) := dk_180 (a := 1) (b := 38) (dkn dmcX12_isThing (by decide +kernel)) rfl
theorem dX12_isThing_4 : decode cX12_isThing 4 = .ok (.ifCond .eq 24, 3) := dk_153 (a := 0) (b := 24) (dkn dmcX12_isThing (by decide +kernel)) rfl
theorem dX12_isThing_7 : decode cX12_isThing 7 = .ok (.iload_n 1, 1) := dk_27 (dkn dmcX12_isThing (by decide +kernel))
theorem dX12_isThing_8 : decode cX12_isThing 8 = .ok (.ifCond .lt 20, 3) := dk_155 (a := 0) (b := 20) (dkn dmcX12_isThing (by decide +kernel)) rfl
theorem dX12_isThing_11 : decode cX12_isThing 11 = .ok (.iload_n 1, 1) := dk_27 (dkn dmcX12_isThing (by decide +kernel))
theorem dX12_isThing_12 : decode cX12_isThing 12 = .ok (.aload_n 0, 1) := dk_42 (dkn dmcX12_isThing (by decide +kernel))
theorem dX12_isThing_13 : decode cX12_isThing 13 = .ok (.getfield 80, 3) := dk_180 (a := 0) (b := 80) (dkn dmcX12_isThing (by decide +kernel)) rfl
theorem dX12_isThing_16 : decode cX12_isThing 16 = .ok (.aload_n 0, 1) := dk_42 (dkn dmcX12_isThing (by decide +kernel))
theorem dX12_isThing_17 : decode cX12_isThing 17 = .ok (.getfield 316, 3) := dk_180 (a := 1) (b := 60) (dkn dmcX12_isThing (by decide +kernel)) rfl
theorem dX12_isThing_20 : decode cX12_isThing 20 = .ok (.iaload, 1) := dk_46 (dkn dmcX12_isThing (by decide +kernel))
theorem dX12_isThing_21 : decode cX12_isThing 21 = .ok (.if_icmp .ge 7, 3) := dk_162 (a := 0) (b := 7) (dkn dmcX12_isThing (by decide +kernel)) rfl
theorem dX12_isThing_24 : decode cX12_isThing 24 = .ok (.iconst 1, 1) := dk_4 (dkn dmcX12_isThing (by decide +kernel))
theorem dX12_isThing_25 : decode cX12_isThing 25 = .ok (.goto 4, 3) := dk_167 (a := 0) (b := 4) (dkn dmcX12_isThing (by decide +kernel)) rfl
theorem dX12_isThing_28 : decode cX12_isThing 28 = .ok (.iconst 0, 1) := dk_3 (dkn dmcX12_isThing (by decide +kernel))
theorem dX12_isThing_29 : decode cX12_isThing 29 = .ok (.ireturn, 1) := dk_172 (dkn dmcX12_isThing (by decide +kernel))
def dncX12_thing : Nat := 0xac04150500a7fe1008009c04150f00a72e601b683c01b42a0c105900b42a1400a0041d2500a71d07009a1c04362e601b683c01b42a0c105600b42a3e2e601b683c01b42a0c105300b42aac0205009aa900b80a09851c0d00994201b61b2aacfe1006009a2601b42aa400b5032a
theorem dmcX12_thing : dkc dncX12_thing 109 cX12_thing.data.toList 0 = true := by decide +kernel
theorem dX12_thing_0 : decode cX12_thing 0 = .ok (.aload_n 0, 1) := dk_42 (dkn dmcX12_thing (by decide +kernel))
theorem dX12_thing_1 : decode cX12_thing 1 = .ok (.iconst 0, 1) := dk_3 (dkn dmcX12_thing (by decide +kernel))
theorem dX12_thing_2 : decode cX12_thing 2 = .ok (.putfield 164, 3) := dk_181 (a := 0) (b := 164) (dkn dmcX12_thing (by decide +kernel)) rfl
theorem dX12_thing_5 : decode cX12_thing 5 = .ok (.aload_n 0, 1) := dk_42 (dkn dmcX12_thing (by decide +kernel))
theorem dX12_thing_6 : decode cX12_thing 6 = .ok (.getfield 294, 3) := dk_180 (a := 1) (b := 38) (dkn dmcX12_thing (by decide +kernel)) rfl
theorem dX12_thing_9 : decode cX12_thing 9 = .ok (.ifCond .ne 6, 3) := dk_154 (a := 0) (b := 6) (dkn dmcX12_thing (by decide +kernel)) rfl
theorem dX12_thing_12 : decode cX12_thing 12 = .ok (.bipush (-2), 2) := dk_16 (a := 254) (dkn dmcX12_thing (by decide +kernel)) rfl
theorem dX12_thing_14 : decode cX12_thing 14 = .ok (.ireturn, 1) := dk_172 (dkn dmcX12_thing (by decide +kernel))
theorem dX12_thing_15 : decode cX12_thing 15 = .ok (.aload_n 0, 1) := dk_42 (dkn dmcX12_thing (by decide +kernel))
theorem dX12_thing_16 : decode cX12_thing 16 = .ok (.iload_n 1, 1) := dk_27 (dkn dmcX12_thing (by decide +kernel))
theorem dX12_thing_17 : decode cX12_thing 17 = .ok (.invokevirtual 322, 3) := dk_182 (a := 1) (b := 66) (dkn dmcX12_thing (by decide +kernel)) rfl
theorem dX12_thing_20 : decode cX12_thing 20 = .ok (.ifCond .eq 13, 3) := dk_153 (a := 0) (b := 13) (dkn dmcX12_thing (by decide +kernel)) rfl
theorem dX12_thing_23 : decode cX12_thing 23 = .ok (.iload_n 2, 1) := dk_28 (dkn dmcX12_thing (by decide +kernel))
theorem dX12_thing_24 : decode cX12_thing 24 = .ok (.i2l, 1) := dk_133 (dkn dmcX12_thing (by decide +kernel))
theorem dX12_thing_25 : decode cX12_thing 25 = .ok (.lconst 0, 1) := dk_9 (dkn dmcX12_thing (by decide +kernel))
theorem dX12_thing_26 : decode cX12_thing 26 = .ok (.lconst 1, 1) := dk_10 (dkn dmcX12_thing (by decide +kernel))
theorem dX12_thing_27 : decode cX12_thing 27 = .ok (.invokestatic 169, 3) := dk_184 (a := 0) (b := 169) (dkn dmcX12_thing (by decide +kernel)) rfl
theorem dX12_thing_30 : decode cX12_thing 30 = .ok (.ifCond .ne 5, 3) := dk_154 (a := 0) (b := 5) (dkn dmcX12_thing (by decide +kernel)) rfl
theorem dX12_thing_33 : decode cX12_thing 33 = .ok (.iconst (-1), 1) := dk_2 (dkn dmcX12_thing (by decide +kernel))
theorem dX12_thing_34 : decode cX12_thing 34 = .ok (.ireturn, 1) := dk_172 (dkn dmcX12_thing (by decide +kernel))
theorem dX12_thing_35 : decode cX12_thing 35 = .ok (.aload_n 0, 1) := dk_42 (dkn dmcX12_thing (by decide +kernel))
theorem dX12_thing_36 : decode cX12_thing 36 = .ok (.getfield 83, 3) := dk_180 (a := 0) (b := 83) (dkn dmcX12_thing (by decide +kernel)) rfl
theorem dX12_thing_39 : decode cX12_thing 39 = .ok (.bipush 12, 2) := dk_16 (a := 12) (dkn dmcX12_thing (by decide +kernel)) rfl
theorem dX12_thing_41 : decode cX12_thing 41 = .ok (.aload_n 0, 1) := dk_42 (dkn dmcX12_thing (by decide +kernel))
theorem dX12_thing_42 : decode cX12_thing 42 = .ok (.getfield 316, 3) := dk_180 (a := 1) (b := 60) (dkn dmcX12_thing (by decide +kernel)) rfl
theorem dX12_thing_45 : decode cX12_thing 45 = .ok (.imul, 1) := dk_104 (dkn dmcX12_thing (by decide +kernel))
theorem dX12_thing_46 : decode cX12_thing 46 = .ok (.iload_n 1, 1) := dk_27 (dkn dmcX12_thing (by decide +kernel))
theorem dX12_thing_47 : decode cX12_thing 47 = .ok (.iadd, 1) := dk_96 (dkn dmcX12_thing (by decide +kernel))
theorem dX12_thing_48 : decode cX12_thing 48 = .ok (.iaload, 1) := dk_46 (dkn dmcX12_thing (by decide +kernel))
theorem dX12_thing_49 : decode cX12_thing 49 = .ok (.istore_n 3, 1) := dk_62 (dkn dmcX12_thing (by decide +kernel))
theorem dX12_thing_50 : decode cX12_thing 50 = .ok (.aload_n 0, 1) := dk_42 (dkn dmcX12_thing (by decide +kernel))
theorem dX12_thing_51 : decode cX12_thing 51 = .ok (.getfield 86, 3) := dk_180 (a := 0) (b := 86) (dkn dmcX12_thing (by decide +kernel)) rfl
theorem dX12_thing_54 : decode cX12_thing 54 = .ok (.bipush 12, 2) := dk_16 (a := 12) (dkn dmcX12_thing (by decide +kernel)) rfl
theorem dX12_thing_56 : decode cX12_thing 56 = .ok (.aload_n 0, 1) := dk_42 (dkn dmcX12_thing (by decide +kernel))
theorem dX12_thing_57 : decode cX12_thing 57 = .ok (.getfield 316, 3) := dk_180 (a := 1) (b := 60) (dkn dmcX12_thing (by decide +kernel)) rfl
theorem dX12_thing_60 : decode cX12_thing 60 = .ok (.imul, 1) := dk_104 (dkn dmcX12_thing (by decide +kernel))
theorem dX12_thing_61 : decode cX12_thing 61 = .ok (.iload_n 1, 1) := dk_27 (dkn dmcX12_thing (by decide +kernel))
theorem dX12_thing_62 : decode cX12_thing 62 = .ok (.iadd, 1) := dk_96 (dkn dmcX12_thing (by decide +kernel))
theorem dX12_thing_63 : decode cX12_thing 63 = .ok (.iaload, 1) := dk_46 (dkn dmcX12_thing (by decide +kernel))
theorem dX12_thing_64 : decode cX12_thing 64 = .ok (.istore 4, 2) := dk_54 (dkn dmcX12_thing (by decide +kernel))
theorem dX12_thing_66 : decode cX12_thing 66 = .ok (.iload_n 2, 1) := dk_28 (dkn dmcX12_thing (by decide +kernel))
theorem dX12_thing_67 : decode cX12_thing 67 = .ok (.ifCond .ne 7, 3) := dk_154 (a := 0) (b := 7) (dkn dmcX12_thing (by decide +kernel)) rfl
theorem dX12_thing_70 : decode cX12_thing 70 = .ok (.iload_n 3, 1) := dk_29 (dkn dmcX12_thing (by decide +kernel))
theorem dX12_thing_71 : decode cX12_thing 71 = .ok (.goto 37, 3) := dk_167 (a := 0) (b := 37) (dkn dmcX12_thing (by decide +kernel)) rfl
theorem dX12_thing_74 : decode cX12_thing 74 = .ok (.iload_n 3, 1) := dk_29 (dkn dmcX12_thing (by decide +kernel))
theorem dX12_thing_75 : decode cX12_thing 75 = .ok (.iconst 1, 1) := dk_4 (dkn dmcX12_thing (by decide +kernel))
theorem dX12_thing_76 : decode cX12_thing 76 = .ok (.if_icmp .ne 20, 3) := dk_160 (a := 0) (b := 20) (dkn dmcX12_thing (by decide +kernel)) rfl
theorem dX12_thing_79 : decode cX12_thing 79 = .ok (.aload_n 0, 1) := dk_42 (dkn dmcX12_thing (by decide +kernel))
theorem dX12_thing_80 : decode cX12_thing 80 = .ok (.getfield 89, 3) := dk_180 (a := 0) (b := 89) (dkn dmcX12_thing (by decide +kernel)) rfl
theorem dX12_thing_83 : decode cX12_thing 83 = .ok (.bipush 12, 2) := dk_16 (a := 12) (dkn dmcX12_thing (by decide +kernel)) rfl
theorem dX12_thing_85 : decode cX12_thing 85 = .ok (.aload_n 0, 1) := dk_42 (dkn dmcX12_thing (by decide +kernel))
theorem dX12_thing_86 : decode cX12_thing 86 = .ok (.getfield 316, 3) := dk_180 (a := 1) (b := 60) (dkn dmcX12_thing (by decide +kernel)) rfl
theorem dX12_thing_89 : decode cX12_thing 89 = .ok (.imul, 1) := dk_104 (dkn dmcX12_thing (by decide +kernel))
theorem dX12_thing_90 : decode cX12_thing 90 = .ok (.iload_n 1, 1) := dk_27 (dkn dmcX12_thing (by decide +kernel))
theorem dX12_thing_91 : decode cX12_thing 91 = .ok (.iadd, 1) := dk_96 (dkn dmcX12_thing (by decide +kernel))
theorem dX12_thing_92 : decode cX12_thing 92 = .ok (.iaload, 1) := dk_46 (dkn dmcX12_thing (by decide +kernel))
theorem dX12_thing_93 : decode cX12_thing 93 = .ok (.goto 15, 3) := dk_167 (a := 0) (b := 15) (dkn dmcX12_thing (by decide +kernel)) rfl
theorem dX12_thing_96 : decode cX12_thing 96 = .ok (.iload 4, 2) := dk_21 (dkn dmcX12_thing (by decide +kernel))
theorem dX12_thing_98 : decode cX12_thing 98 = .ok (.ifCond .ge 8, 3) := dk_156 (a := 0) (b := 8) (dkn dmcX12_thing (by decide +kernel)) rfl
theorem dX12_thing_101 : decode cX12_thing 101 = .ok (.bipush (-2), 2) := dk_16 (a := 254) (dkn dmcX12_thing (by decide +kernel)) rfl
theorem dX12_thing_103 : decode cX12_thing 103 = .ok (.goto 5, 3) := dk_167 (a := 0) (b := 5) (dkn dmcX12_thing (by decide +kernel)) rfl
theorem dX12_thing_106 : decode cX12_thing 106 = .ok (.iload 4, 2) := dk_21 (dkn dmcX12_thing (by decide +kernel))
theorem dX12_thing_108 : decode cX12_thing 108 = .ok (.ireturn, 1) := dk_172 (dkn dmcX12_thing (by decide +kernel))
def dncX12_place : Nat := 0xac030400a72e601c60681b1010683c01b42ac000115d00b42a1a00991da400b5040400a7030700991d0c00a70507009a2601b42a2a3e030400a704070099a900b88564042e601b683c01b42a0c105900b42a09851c2100a0042e601b683c01b42a0c105300b42a3300994201b61b2a
theorem dmcX12_place : dkc dncX12_place 111 cX12_place.data.toList 0 = true := by decide +kernel
theorem dX12_place_0 : decode cX12_place 0 = .ok (.aload_n 0, 1) := dk_42 (dkn dmcX12_place (by decide +kernel))
theorem dX12_place_1 : decode cX12_place 1 = .ok (.iload_n 1, 1) := dk_27 (dkn dmcX12_place (by decide +kernel))
theorem dX12_place_2 : decode cX12_place 2 = .ok (.invokevirtual 322, 3) := dk_182 (a := 1) (b := 66) (dkn dmcX12_place (by decide +kernel)) rfl
theorem dX12_place_5 : decode cX12_place 5 = .ok (.ifCond .eq 51, 3) := dk_153 (a := 0) (b := 51) (dkn dmcX12_place (by decide +kernel)) rfl
theorem dX12_place_8 : decode cX12_place 8 = .ok (.aload_n 0, 1) := dk_42 (dkn dmcX12_place (by decide +kernel))
theorem dX12_place_9 : decode cX12_place 9 = .ok (.getfield 83, 3) := dk_180 (a := 0) (b := 83) (dkn dmcX12_place (by decide +kernel)) rfl
theorem dX12_place_12 : decode cX12_place 12 = .ok (.bipush 12, 2) := dk_16 (a := 12) (dkn dmcX12_place (by decide +kernel)) rfl
theorem dX12_place_14 : decode cX12_place 14 = .ok (.aload_n 0, 1) := dk_42 (dkn dmcX12_place (by decide +kernel))
theorem dX12_place_15 : decode cX12_place 15 = .ok (.getfield 316, 3) := dk_180 (a := 1) (b := 60) (dkn dmcX12_place (by decide +kernel)) rfl
theorem dX12_place_18 : decode cX12_place 18 = .ok (.imul, 1) := dk_104 (dkn dmcX12_place (by decide +kernel))
theorem dX12_place_19 : decode cX12_place 19 = .ok (.iload_n 1, 1) := dk_27 (dkn dmcX12_place (by decide +kernel))
theorem dX12_place_20 : decode cX12_place 20 = .ok (.iadd, 1) := dk_96 (dkn dmcX12_place (by decide +kernel))
theorem dX12_place_21 : decode cX12_place 21 = .ok (.iaload, 1) := dk_46 (dkn dmcX12_place (by decide +kernel))
theorem dX12_place_22 : decode cX12_place 22 = .ok (.iconst 1, 1) := dk_4 (dkn dmcX12_place (by decide +kernel))
theorem dX12_place_23 : decode cX12_place 23 = .ok (.if_icmp .ne 33, 3) := dk_160 (a := 0) (b := 33) (dkn dmcX12_place (by decide +kernel)) rfl
theorem dX12_place_26 : decode cX12_place 26 = .ok (.iload_n 2, 1) := dk_28 (dkn dmcX12_place (by decide +kernel))
theorem dX12_place_27 : decode cX12_place 27 = .ok (.i2l, 1) := dk_133 (dkn dmcX12_place (by decide +kernel))
theorem dX12_place_28 : decode cX12_place 28 = .ok (.lconst 0, 1) := dk_9 (dkn dmcX12_place (by decide +kernel))
theorem dX12_place_29 : decode cX12_place 29 = .ok (.aload_n 0, 1) := dk_42 (dkn dmcX12_place (by decide +kernel))
theorem dX12_place_30 : decode cX12_place 30 = .ok (.getfield 89, 3) := dk_180 (a := 0) (b := 89) (dkn dmcX12_place (by decide +kernel)) rfl
theorem dX12_place_33 : decode cX12_place 33 = .ok (.bipush 12, 2) := dk_16 (a := 12) (dkn dmcX12_place (by decide +kernel)) rfl
theorem dX12_place_35 : decode cX12_place 35 = .ok (.aload_n 0, 1) := dk_42 (dkn dmcX12_place (by decide +kernel))
theorem dX12_place_36 : decode cX12_place 36 = .ok (.getfield 316, 3) := dk_180 (a := 1) (b := 60) (dkn dmcX12_place (by decide +kernel)) rfl
theorem dX12_place_39 : decode cX12_place 39 = .ok (.imul, 1) := dk_104 (dkn dmcX12_place (by decide +kernel))
theorem dX12_place_40 : decode cX12_place 40 = .ok (.iload_n 1, 1) := dk_27 (dkn dmcX12_place (by decide +kernel))
theorem dX12_place_41 : decode cX12_place 41 = .ok (.iadd, 1) := dk_96 (dkn dmcX12_place (by decide +kernel))
theorem dX12_place_42 : decode cX12_place 42 = .ok (.iaload, 1) := dk_46 (dkn dmcX12_place (by decide +kernel))
theorem dX12_place_43 : decode cX12_place 43 = .ok (.iconst 1, 1) := dk_4 (dkn dmcX12_place (by decide +kernel))
theorem dX12_place_44 : decode cX12_place 44 = .ok (.isub, 1) := dk_100 (dkn dmcX12_place (by decide +kernel))
theorem dX12_place_45 : decode cX12_place 45 = .ok (.i2l, 1) := dk_133 (dkn dmcX12_place (by decide +kernel))
theorem dX12_place_46 : decode cX12_place 46 = .ok (.invokestatic 169, 3) := dk_184 (a := 0) (b := 169) (dkn dmcX12_place (by decide +kernel)) rfl
theorem dX12_place_49 : decode cX12_place 49 = .ok (.ifCond .eq 7, 3) := dk_153 (a := 0) (b := 7) (dkn dmcX12_place (by decide +kernel)) rfl
theorem dX12_place_52 : decode cX12_place 52 = .ok (.iconst 1, 1) := dk_4 (dkn dmcX12_place (by decide +kernel))
theorem dX12_place_53 : decode cX12_place 53 = .ok (.goto 4, 3) := dk_167 (a := 0) (b := 4) (dkn dmcX12_place (by decide +kernel)) rfl
theorem dX12_place_56 : decode cX12_place 56 = .ok (.iconst 0, 1) := dk_3 (dkn dmcX12_place (by decide +kernel))
theorem dX12_place_57 : decode cX12_place 57 = .ok (.istore_n 3, 1) := dk_62 (dkn dmcX12_place (by decide +kernel))
theorem dX12_place_58 : decode cX12_place 58 = .ok (.aload_n 0, 1) := dk_42 (dkn dmcX12_place (by decide +kernel))
theorem dX12_place_59 : decode cX12_place 59 = .ok (.aload_n 0, 1) := dk_42 (dkn dmcX12_place (by decide +kernel))
theorem dX12_place_60 : decode cX12_place 60 = .ok (.getfield 294, 3) := dk_180 (a := 1) (b := 38) (dkn dmcX12_place (by decide +kernel)) rfl
theorem dX12_place_63 : decode cX12_place 63 = .ok (.ifCond .ne 7, 3) := dk_154 (a := 0) (b := 7) (dkn dmcX12_place (by decide +kernel)) rfl
theorem dX12_place_66 : decode cX12_place 66 = .ok (.iconst 2, 1) := dk_5 (dkn dmcX12_place (by decide +kernel))
theorem dX12_place_67 : decode cX12_place 67 = .ok (.goto 12, 3) := dk_167 (a := 0) (b := 12) (dkn dmcX12_place (by decide +kernel)) rfl
theorem dX12_place_70 : decode cX12_place 70 = .ok (.iload_n 3, 1) := dk_29 (dkn dmcX12_place (by decide +kernel))
theorem dX12_place_71 : decode cX12_place 71 = .ok (.ifCond .eq 7, 3) := dk_153 (a := 0) (b := 7) (dkn dmcX12_place (by decide +kernel)) rfl
theorem dX12_place_74 : decode cX12_place 74 = .ok (.iconst 0, 1) := dk_3 (dkn dmcX12_place (by decide +kernel))
theorem dX12_place_75 : decode cX12_place 75 = .ok (.goto 4, 3) := dk_167 (a := 0) (b := 4) (dkn dmcX12_place (by decide +kernel)) rfl
theorem dX12_place_78 : decode cX12_place 78 = .ok (.iconst 1, 1) := dk_4 (dkn dmcX12_place (by decide +kernel))
theorem dX12_place_79 : decode cX12_place 79 = .ok (.putfield 164, 3) := dk_181 (a := 0) (b := 164) (dkn dmcX12_place (by decide +kernel)) rfl
theorem dX12_place_82 : decode cX12_place 82 = .ok (.iload_n 3, 1) := dk_29 (dkn dmcX12_place (by decide +kernel))
theorem dX12_place_83 : decode cX12_place 83 = .ok (.ifCond .eq 26, 3) := dk_153 (a := 0) (b := 26) (dkn dmcX12_place (by decide +kernel)) rfl
theorem dX12_place_86 : decode cX12_place 86 = .ok (.aload_n 0, 1) := dk_42 (dkn dmcX12_place (by decide +kernel))
theorem dX12_place_87 : decode cX12_place 87 = .ok (.getfield 93, 3) := dk_180 (a := 0) (b := 93) (dkn dmcX12_place (by decide +kernel)) rfl
theorem dX12_place_90 : decode cX12_place 90 = .ok (.sipush 192, 3) := dk_17 (a := 0) (b := 192) (dkn dmcX12_place (by decide +kernel)) rfl
theorem dX12_place_93 : decode cX12_place 93 = .ok (.aload_n 0, 1) := dk_42 (dkn dmcX12_place (by decide +kernel))
theorem dX12_place_94 : decode cX12_place 94 = .ok (.getfield 316, 3) := dk_180 (a := 1) (b := 60) (dkn dmcX12_place (by decide +kernel)) rfl
theorem dX12_place_97 : decode cX12_place 97 = .ok (.imul, 1) := dk_104 (dkn dmcX12_place (by decide +kernel))
theorem dX12_place_98 : decode cX12_place 98 = .ok (.bipush 16, 2) := dk_16 (a := 16) (dkn dmcX12_place (by decide +kernel)) rfl
theorem dX12_place_100 : decode cX12_place 100 = .ok (.iload_n 1, 1) := dk_27 (dkn dmcX12_place (by decide +kernel))
theorem dX12_place_101 : decode cX12_place 101 = .ok (.imul, 1) := dk_104 (dkn dmcX12_place (by decide +kernel))
theorem dX12_place_102 : decode cX12_place 102 = .ok (.iadd, 1) := dk_96 (dkn dmcX12_place (by decide +kernel))
theorem dX12_place_103 : decode cX12_place 103 = .ok (.iload_n 2, 1) := dk_28 (dkn dmcX12_place (by decide +kernel))
theorem dX12_place_104 : decode cX12_place 104 = .ok (.iadd, 1) := dk_96 (dkn dmcX12_place (by decide +kernel))
theorem dX12_place_105 : decode cX12_place 105 = .ok (.iaload, 1) := dk_46 (dkn dmcX12_place (by decide +kernel))
theorem dX12_place_106 : decode cX12_place 106 = .ok (.goto 4, 3) := dk_167 (a := 0) (b := 4) (dkn dmcX12_place (by decide +kernel)) rfl
theorem dX12_place_109 : decode cX12_place 109 = .ok (.iconst 0, 1) := dk_3 (dkn dmcX12_place (by decide +kernel))
theorem dX12_place_110 : decode cX12_place 110 = .ok (.ireturn, 1) := dk_172 (dkn dmcX12_place (by decide +kernel))
def dncX12_thread : Nat := 0xac2e601b683c01b42a074d00b42a1000a72e601b683c01b42a074a00b42a13009a1cac0205009aa900b80a09851c0d0099a900b8a7001409851bacfe1006009a2601b42aa400b5032a
theorem dmcX12_thread : dkc dncX12_thread 73 cX12_thread.data.toList 0 = true := by decide +kernel
theorem dX12_thread_0 : decode cX12_thread 0 = .ok (.aload_n 0, 1) := dk_42 (dkn dmcX12_thread (by decide +kernel))
theorem dX12_thread_1 : decode cX12_thread 1 = .ok (.iconst 0, 1) := dk_3 (dkn dmcX12_thread (by decide +kernel))
theorem dX12_thread_2 : decode cX12_thread 2 = .ok (.putfield 164, 3) := dk_181 (a := 0) (b := 164) (dkn dmcX12_thread (by decide +kernel)) rfl
theorem dX12_thread_5 : decode cX12_thread 5 = .ok (.aload_n 0, 1) := dk_42 (dkn dmcX12_thread (by decide +kernel))
theorem dX12_thread_6 : decode cX12_thread 6 = .ok (.getfield 294, 3) := dk_180 (a := 1) (b := 38) (dkn dmcX12_thread (by decide +kernel)) rfl
theorem dX12_thread_9 : decode cX12_thread 9 = .ok (.ifCond .ne 6, 3) := dk_154 (a := 0) (b := 6) (dkn dmcX12_thread (by decide +kernel)) rfl
theorem dX12_thread_12 : decode cX12_thread 12 = .ok (.bipush (-2), 2) := dk_16 (a := 254) (dkn dmcX12_thread (by decide +kernel)) rfl
theorem dX12_thread_14 : decode cX12_thread 14 = .ok (.ireturn, 1) := dk_172 (dkn dmcX12_thread (by decide +kernel))
theorem dX12_thread_15 : decode cX12_thread 15 = .ok (.iload_n 1, 1) := dk_27 (dkn dmcX12_thread (by decide +kernel))
theorem dX12_thread_16 : decode cX12_thread 16 = .ok (.i2l, 1) := dk_133 (dkn dmcX12_thread (by decide +kernel))
theorem dX12_thread_17 : decode cX12_thread 17 = .ok (.lconst 0, 1) := dk_9 (dkn dmcX12_thread (by decide +kernel))
theorem dX12_thread_18 : decode cX12_thread 18 = .ok (.ldc2_w 167, 3) := dk_20 (a := 0) (b := 167) (dkn dmcX12_thread (by decide +kernel)) rfl
theorem dX12_thread_21 : decode cX12_thread 21 = .ok (.invokestatic 169, 3) := dk_184 (a := 0) (b := 169) (dkn dmcX12_thread (by decide +kernel)) rfl
theorem dX12_thread_24 : decode cX12_thread 24 = .ok (.ifCond .eq 13, 3) := dk_153 (a := 0) (b := 13) (dkn dmcX12_thread (by decide +kernel)) rfl
theorem dX12_thread_27 : decode cX12_thread 27 = .ok (.iload_n 2, 1) := dk_28 (dkn dmcX12_thread (by decide +kernel))
theorem dX12_thread_28 : decode cX12_thread 28 = .ok (.i2l, 1) := dk_133 (dkn dmcX12_thread (by decide +kernel))
theorem dX12_thread_29 : decode cX12_thread 29 = .ok (.lconst 0, 1) := dk_9 (dkn dmcX12_thread (by decide +kernel))
theorem dX12_thread_30 : decode cX12_thread 30 = .ok (.lconst 1, 1) := dk_10 (dkn dmcX12_thread (by decide +kernel))
theorem dX12_thread_31 : decode cX12_thread 31 = .ok (.invokestatic 169, 3) := dk_184 (a := 0) (b := 169) (dkn dmcX12_thread (by decide +kernel)) rfl
theorem dX12_thread_34 : decode cX12_thread 34 = .ok (.ifCond .ne 5, 3) := dk_154 (a := 0) (b := 5) (dkn dmcX12_thread (by decide +kernel)) rfl
theorem dX12_thread_37 : decode cX12_thread 37 = .ok (.iconst (-1), 1) := dk_2 (dkn dmcX12_thread (by decide +kernel))
theorem dX12_thread_38 : decode cX12_thread 38 = .ok (.ireturn, 1) := dk_172 (dkn dmcX12_thread (by decide +kernel))
theorem dX12_thread_39 : decode cX12_thread 39 = .ok (.iload_n 2, 1) := dk_28 (dkn dmcX12_thread (by decide +kernel))
theorem dX12_thread_40 : decode cX12_thread 40 = .ok (.ifCond .ne 19, 3) := dk_154 (a := 0) (b := 19) (dkn dmcX12_thread (by decide +kernel)) rfl
theorem dX12_thread_43 : decode cX12_thread 43 = .ok (.aload_n 0, 1) := dk_42 (dkn dmcX12_thread (by decide +kernel))
theorem dX12_thread_44 : decode cX12_thread 44 = .ok (.getfield 74, 3) := dk_180 (a := 0) (b := 74) (dkn dmcX12_thread (by decide +kernel)) rfl
theorem dX12_thread_47 : decode cX12_thread 47 = .ok (.iconst 4, 1) := dk_7 (dkn dmcX12_thread (by decide +kernel))
theorem dX12_thread_48 : decode cX12_thread 48 = .ok (.aload_n 0, 1) := dk_42 (dkn dmcX12_thread (by decide +kernel))
theorem dX12_thread_49 : decode cX12_thread 49 = .ok (.getfield 316, 3) := dk_180 (a := 1) (b := 60) (dkn dmcX12_thread (by decide +kernel)) rfl
theorem dX12_thread_52 : decode cX12_thread 52 = .ok (.imul, 1) := dk_104 (dkn dmcX12_thread (by decide +kernel))
theorem dX12_thread_53 : decode cX12_thread 53 = .ok (.iload_n 1, 1) := dk_27 (dkn dmcX12_thread (by decide +kernel))
theorem dX12_thread_54 : decode cX12_thread 54 = .ok (.iadd, 1) := dk_96 (dkn dmcX12_thread (by decide +kernel))
theorem dX12_thread_55 : decode cX12_thread 55 = .ok (.iaload, 1) := dk_46 (dkn dmcX12_thread (by decide +kernel))
theorem dX12_thread_56 : decode cX12_thread 56 = .ok (.goto 16, 3) := dk_167 (a := 0) (b := 16) (dkn dmcX12_thread (by decide +kernel)) rfl
theorem dX12_thread_59 : decode cX12_thread 59 = .ok (.aload_n 0, 1) := dk_42 (dkn dmcX12_thread (by decide +kernel))
theorem dX12_thread_60 : decode cX12_thread 60 = .ok (.getfield 77, 3) := dk_180 (a := 0) (b := 77) (dkn dmcX12_thread (by decide +kernel)) rfl
theorem dX12_thread_63 : decode cX12_thread 63 = .ok (.iconst 4, 1) := dk_7 (dkn dmcX12_thread (by decide +kernel))
theorem dX12_thread_64 : decode cX12_thread 64 = .ok (.aload_n 0, 1) := dk_42 (dkn dmcX12_thread (by decide +kernel))
theorem dX12_thread_65 : decode cX12_thread 65 = .ok (.getfield 316, 3) := dk_180 (a := 1) (b := 60) (dkn dmcX12_thread (by decide +kernel)) rfl
theorem dX12_thread_68 : decode cX12_thread 68 = .ok (.imul, 1) := dk_104 (dkn dmcX12_thread (by decide +kernel))
theorem dX12_thread_69 : decode cX12_thread 69 = .ok (.iload_n 1, 1) := dk_27 (dkn dmcX12_thread (by decide +kernel))
theorem dX12_thread_70 : decode cX12_thread 70 = .ok (.iadd, 1) := dk_96 (dkn dmcX12_thread (by decide +kernel))
theorem dX12_thread_71 : decode cX12_thread 71 = .ok (.iaload, 1) := dk_46 (dkn dmcX12_thread (by decide +kernel))
theorem dX12_thread_72 : decode cX12_thread 72 = .ok (.ireturn, 1) := dk_172 (dkn dmcX12_thread (by decide +kernel))
def dncX12_last : Nat := 0xac1de1ffa70104843e1d0400a7041508009b1b0c00a01b2e04156c00b42a1f00a31c04150436043e03ac0205009aa900b8853001b42a09851cacfe1006009a2601b42aa400b5032a
theorem dmcX12_last : dkc dncX12_last 72 cX12_last.data.toList 0 = true := by decide +kernel
theorem dX12_last_0 : decode cX12_last 0 = .ok (.aload_n 0, 1) := dk_42 (dkn dmcX12_last (by decide +kernel))
theorem dX12_last_1 : decode cX12_last 1 = .ok (.iconst 0, 1) := dk_3 (dkn dmcX12_last (by decide +kernel))
theorem dX12_last_2 : decode cX12_last 2 = .ok (.putfield 164, 3) := dk_181 (a := 0) (b := 164) (dkn dmcX12_last (by decide +kernel)) rfl
theorem dX12_last_5 : decode cX12_last 5 = .ok (.aload_n 0, 1) := dk_42 (dkn dmcX12_last (by decide +kernel))
theorem dX12_last_6 : decode cX12_last 6 = .ok (.getfield 294, 3) := dk_180 (a := 1) (b := 38) (dkn dmcX12_last (by decide +kernel)) rfl
theorem dX12_last_9 : decode cX12_last 9 = .ok (.ifCond .ne 6, 3) := dk_154 (a := 0) (b := 6) (dkn dmcX12_last (by decide +kernel)) rfl
theorem dX12_last_12 : decode cX12_last 12 = .ok (.bipush (-2), 2) := dk_16 (a := 254) (dkn dmcX12_last (by decide +kernel)) rfl
theorem dX12_last_14 : decode cX12_last 14 = .ok (.ireturn, 1) := dk_172 (dkn dmcX12_last (by decide +kernel))
theorem dX12_last_15 : decode cX12_last 15 = .ok (.iload_n 2, 1) := dk_28 (dkn dmcX12_last (by decide +kernel))
theorem dX12_last_16 : decode cX12_last 16 = .ok (.i2l, 1) := dk_133 (dkn dmcX12_last (by decide +kernel))
theorem dX12_last_17 : decode cX12_last 17 = .ok (.lconst 0, 1) := dk_9 (dkn dmcX12_last (by decide +kernel))
theorem dX12_last_18 : decode cX12_last 18 = .ok (.aload_n 0, 1) := dk_42 (dkn dmcX12_last (by decide +kernel))
theorem dX12_last_19 : decode cX12_last 19 = .ok (.getfield 304, 3) := dk_180 (a := 1) (b := 48) (dkn dmcX12_last (by decide +kernel)) rfl
theorem dX12_last_22 : decode cX12_last 22 = .ok (.i2l, 1) := dk_133 (dkn dmcX12_last (by decide +kernel))
theorem dX12_last_23 : decode cX12_last 23 = .ok (.invokestatic 169, 3) := dk_184 (a := 0) (b := 169) (dkn dmcX12_last (by decide +kernel)) rfl
theorem dX12_last_26 : decode cX12_last 26 = .ok (.ifCond .ne 5, 3) := dk_154 (a := 0) (b := 5) (dkn dmcX12_last (by decide +kernel)) rfl
theorem dX12_last_29 : decode cX12_last 29 = .ok (.iconst (-1), 1) := dk_2 (dkn dmcX12_last (by decide +kernel))
theorem dX12_last_30 : decode cX12_last 30 = .ok (.ireturn, 1) := dk_172 (dkn dmcX12_last (by decide +kernel))
theorem dX12_last_31 : decode cX12_last 31 = .ok (.iconst 0, 1) := dk_3 (dkn dmcX12_last (by decide +kernel))
theorem dX12_last_32 : decode cX12_last 32 = .ok (.istore_n 3, 1) := dk_62 (dkn dmcX12_last (by decide +kernel))
theorem dX12_last_33 : decode cX12_last 33 = .ok (.iconst 1, 1) := dk_4 (dkn dmcX12_last (by decide +kernel))
theorem dX12_last_34 : decode cX12_last 34 = .ok (.istore 4, 2) := dk_54 (dkn dmcX12_last (by decide +kernel))
theorem dX12_last_36 : decode cX12_last 36 = .ok (.iload 4, 2) := dk_21 (dkn dmcX12_last (by decide +kernel))
theorem dX12_last_38 : decode cX12_last 38 = .ok (.iload_n 2, 1) := dk_28 (dkn dmcX12_last (by decide +kernel))
theorem dX12_last_39 : decode cX12_last 39 = .ok (.if_icmp .gt 31, 3) := dk_163 (a := 0) (b := 31) (dkn dmcX12_last (by decide +kernel)) rfl
theorem dX12_last_42 : decode cX12_last 42 = .ok (.aload_n 0, 1) := dk_42 (dkn dmcX12_last (by decide +kernel))
theorem dX12_last_43 : decode cX12_last 43 = .ok (.getfield 108, 3) := dk_180 (a := 0) (b := 108) (dkn dmcX12_last (by decide +kernel)) rfl
theorem dX12_last_46 : decode cX12_last 46 = .ok (.iload 4, 2) := dk_21 (dkn dmcX12_last (by decide +kernel))
theorem dX12_last_48 : decode cX12_last 48 = .ok (.iaload, 1) := dk_46 (dkn dmcX12_last (by decide +kernel))
theorem dX12_last_49 : decode cX12_last 49 = .ok (.iload_n 1, 1) := dk_27 (dkn dmcX12_last (by decide +kernel))
theorem dX12_last_50 : decode cX12_last 50 = .ok (.if_icmp .ne 12, 3) := dk_160 (a := 0) (b := 12) (dkn dmcX12_last (by decide +kernel)) rfl
theorem dX12_last_53 : decode cX12_last 53 = .ok (.iload_n 1, 1) := dk_27 (dkn dmcX12_last (by decide +kernel))
theorem dX12_last_54 : decode cX12_last 54 = .ok (.ifCond .lt 8, 3) := dk_155 (a := 0) (b := 8) (dkn dmcX12_last (by decide +kernel)) rfl
theorem dX12_last_57 : decode cX12_last 57 = .ok (.iload 4, 2) := dk_21 (dkn dmcX12_last (by decide +kernel))
theorem dX12_last_59 : decode cX12_last 59 = .ok (.goto 4, 3) := dk_167 (a := 0) (b := 4) (dkn dmcX12_last (by decide +kernel)) rfl
theorem dX12_last_62 : decode cX12_last 62 = .ok (.iload_n 3, 1) := dk_29 (dkn dmcX12_last (by decide +kernel))
theorem dX12_last_63 : decode cX12_last 63 = .ok (.istore_n 3, 1) := dk_62 (dkn dmcX12_last (by decide +kernel))
theorem dX12_last_64 : decode cX12_last 64 = .ok (.iinc 4 1, 3) := dk_132 (b := 1) (dkn dmcX12_last (by decide +kernel)) rfl
theorem dX12_last_67 : decode cX12_last 67 = .ok (.goto (-31), 3) := dk_167 (a := 255) (b := 225) (dkn dmcX12_last (by decide +kernel)) rfl
theorem dX12_last_70 : decode cX12_last 70 = .ok (.iload_n 3, 1) := dk_29 (dkn dmcX12_last (by decide +kernel))
theorem dX12_last_71 : decode cX12_last 71 = .ok (.ireturn, 1) := dk_172 (dkn dmcX12_last (by decide +kernel))
def dncX12_next : Nat := 0xac03e5ffa7010384ac1d05009b1b0900a01b2e1d6900b42a1900a33001b42a1d3e60041cac0205009aa900b8853001b42a09851cacfe1006009a2601b42aa400b5032a
theorem dmcX12_next : dkc dncX12_next 67 cX12_next.data.toList 0 = true := by decide +kernel
theorem dX12_next_0 : decode cX12_next 0 = .ok (.aload_n 0, 1) := dk_42 (dkn dmcX12_next (by decide +kernel))
theorem dX12_next_1 : decode cX12_next 1 = .ok (.iconst 0, 1) := dk_3 (dkn dmcX12_next (by decide +kernel))
theorem dX12_next_2 : decode cX12_next 2 = .ok (.putfield 164, 3) := dk_181 (a := 0) (b := 164) (dkn dmcX12_next (by decide +kernel)) rfl
theorem dX12_next_5 : decode cX12_next 5 = .ok (.aload_n 0, 1) := dk_42 (dkn dmcX12_next (by decide +kernel))
theorem dX12_next_6 : decode cX12_next 6 = .ok (.getfield 294, 3) := dk_180 (a := 1) (b := 38) (dkn dmcX12_next (by decide +kernel)) rfl
theorem dX12_next_9 : decode cX12_next 9 = .ok (.ifCond .ne 6, 3) := dk_154 (a := 0) (b := 6) (dkn dmcX12_next (by decide +kernel)) rfl
theorem dX12_next_12 : decode cX12_next 12 = .ok (.bipush (-2), 2) := dk_16 (a := 254) (dkn dmcX12_next (by decide +kernel)) rfl
theorem dX12_next_14 : decode cX12_next 14 = .ok (.ireturn, 1) := dk_172 (dkn dmcX12_next (by decide +kernel))
theorem dX12_next_15 : decode cX12_next 15 = .ok (.iload_n 2, 1) := dk_28 (dkn dmcX12_next (by decide +kernel))
theorem dX12_next_16 : decode cX12_next 16 = .ok (.i2l, 1) := dk_133 (dkn dmcX12_next (by decide +kernel))
theorem dX12_next_17 : decode cX12_next 17 = .ok (.lconst 0, 1) := dk_9 (dkn dmcX12_next (by decide +kernel))
theorem dX12_next_18 : decode cX12_next 18 = .ok (.aload_n 0, 1) := dk_42 (dkn dmcX12_next (by decide +kernel))
theorem dX12_next_19 : decode cX12_next 19 = .ok (.getfield 304, 3) := dk_180 (a := 1) (b := 48) (dkn dmcX12_next (by decide +kernel)) rfl
theorem dX12_next_22 : decode cX12_next 22 = .ok (.i2l, 1) := dk_133 (dkn dmcX12_next (by decide +kernel))
theorem dX12_next_23 : decode cX12_next 23 = .ok (.invokestatic 169, 3) := dk_184 (a := 0) (b := 169) (dkn dmcX12_next (by decide +kernel)) rfl
theorem dX12_next_26 : decode cX12_next 26 = .ok (.ifCond .ne 5, 3) := dk_154 (a := 0) (b := 5) (dkn dmcX12_next (by decide +kernel)) rfl
theorem dX12_next_29 : decode cX12_next 29 = .ok (.iconst (-1), 1) := dk_2 (dkn dmcX12_next (by decide +kernel))
theorem dX12_next_30 : decode cX12_next 30 = .ok (.ireturn, 1) := dk_172 (dkn dmcX12_next (by decide +kernel))
theorem dX12_next_31 : decode cX12_next 31 = .ok (.iload_n 2, 1) := dk_28 (dkn dmcX12_next (by decide +kernel))
theorem dX12_next_32 : decode cX12_next 32 = .ok (.iconst 1, 1) := dk_4 (dkn dmcX12_next (by decide +kernel))
theorem dX12_next_33 : decode cX12_next 33 = .ok (.iadd, 1) := dk_96 (dkn dmcX12_next (by decide +kernel))
theorem dX12_next_34 : decode cX12_next 34 = .ok (.istore_n 3, 1) := dk_62 (dkn dmcX12_next (by decide +kernel))
theorem dX12_next_35 : decode cX12_next 35 = .ok (.iload_n 3, 1) := dk_29 (dkn dmcX12_next (by decide +kernel))
theorem dX12_next_36 : decode cX12_next 36 = .ok (.aload_n 0, 1) := dk_42 (dkn dmcX12_next (by decide +kernel))
theorem dX12_next_37 : decode cX12_next 37 = .ok (.getfield 304, 3) := dk_180 (a := 1) (b := 48) (dkn dmcX12_next (by decide +kernel)) rfl
theorem dX12_next_40 : decode cX12_next 40 = .ok (.if_icmp .gt 25, 3) := dk_163 (a := 0) (b := 25) (dkn dmcX12_next (by decide +kernel)) rfl
theorem dX12_next_43 : decode cX12_next 43 = .ok (.aload_n 0, 1) := dk_42 (dkn dmcX12_next (by decide +kernel))
theorem dX12_next_44 : decode cX12_next 44 = .ok (.getfield 105, 3) := dk_180 (a := 0) (b := 105) (dkn dmcX12_next (by decide +kernel)) rfl
theorem dX12_next_47 : decode cX12_next 47 = .ok (.iload_n 3, 1) := dk_29 (dkn dmcX12_next (by decide +kernel))
theorem dX12_next_48 : decode cX12_next 48 = .ok (.iaload, 1) := dk_46 (dkn dmcX12_next (by decide +kernel))
theorem dX12_next_49 : decode cX12_next 49 = .ok (.iload_n 1, 1) := dk_27 (dkn dmcX12_next (by decide +kernel))
theorem dX12_next_50 : decode cX12_next 50 = .ok (.if_icmp .ne 9, 3) := dk_160 (a := 0) (b := 9) (dkn dmcX12_next (by decide +kernel)) rfl
theorem dX12_next_53 : decode cX12_next 53 = .ok (.iload_n 1, 1) := dk_27 (dkn dmcX12_next (by decide +kernel))
theorem dX12_next_54 : decode cX12_next 54 = .ok (.ifCond .lt 5, 3) := dk_155 (a := 0) (b := 5) (dkn dmcX12_next (by decide +kernel)) rfl
theorem dX12_next_57 : decode cX12_next 57 = .ok (.iload_n 3, 1) := dk_29 (dkn dmcX12_next (by decide +kernel))
theorem dX12_next_58 : decode cX12_next 58 = .ok (.ireturn, 1) := dk_172 (dkn dmcX12_next (by decide +kernel))
theorem dX12_next_59 : decode cX12_next 59 = .ok (.iinc 3 1, 3) := dk_132 (b := 1) (dkn dmcX12_next (by decide +kernel)) rfl
theorem dX12_next_62 : decode cX12_next 62 = .ok (.goto (-27), 3) := dk_167 (a := 255) (b := 229) (dkn dmcX12_next (by decide +kernel)) rfl
theorem dX12_next_65 : decode cX12_next 65 = .ok (.iconst 0, 1) := dk_3 (dkn dmcX12_next (by decide +kernel))
theorem dX12_next_66 : decode cX12_next 66 = .ok (.ireturn, 1) := dk_172 (dkn dmcX12_next (by decide +kernel))
def dncX12_when : Nat := 0xac020400a7051508009a041589ffa701088406360915010584ac640408150700a707150800a004041513009e04151800a01d0515210099061526009a09150736081507009a06150c009909150936030400a7040700a01c2e601b6808151c104700b42a17009a2e601b6808151c104400b42a2600a33001b42a08157200a360043001b42a0815083603073602063603053603ac0205009aa900b845011409850415100099a900b8af001409851bacfe1006009a2601b42aa400b5032a
theorem dmcX12_when : dkc dncX12_when 188 cX12_when.data.toList 0 = true := by decide +kernel
theorem dX12_when_0 : decode cX12_when 0 = .ok (.aload_n 0, 1) := dk_42 (dkn dmcX12_when (by decide +kernel))
theorem dX12_when_1 : decode cX12_when 1 = .ok (.iconst 0, 1) := dk_3 (dkn dmcX12_when (by decide +kernel))
theorem dX12_when_2 : decode cX12_when 2 = .ok (.putfield 164, 3) := dk_181 (a := 0) (b := 164) (dkn dmcX12_when (by decide +kernel)) rfl
theorem dX12_when_5 : decode cX12_when 5 = .ok (.aload_n 0, 1) := dk_42 (dkn dmcX12_when (by decide +kernel))
theorem dX12_when_6 : decode cX12_when 6 = .ok (.getfield 294, 3) := dk_180 (a := 1) (b := 38) (dkn dmcX12_when (by decide +kernel)) rfl
theorem dX12_when_9 : decode cX12_when 9 = .ok (.ifCond .ne 6, 3) := dk_154 (a := 0) (b := 6) (dkn dmcX12_when (by decide +kernel)) rfl
theorem dX12_when_12 : decode cX12_when 12 = .ok (.bipush (-2), 2) := dk_16 (a := 254) (dkn dmcX12_when (by decide +kernel)) rfl
theorem dX12_when_14 : decode cX12_when 14 = .ok (.ireturn, 1) := dk_172 (dkn dmcX12_when (by decide +kernel))
theorem dX12_when_15 : decode cX12_when 15 = .ok (.iload_n 1, 1) := dk_27 (dkn dmcX12_when (by decide +kernel))
theorem dX12_when_16 : decode cX12_when 16 = .ok (.i2l, 1) := dk_133 (dkn dmcX12_when (by decide +kernel))
theorem dX12_when_17 : decode cX12_when 17 = .ok (.lconst 0, 1) := dk_9 (dkn dmcX12_when (by decide +kernel))
theorem dX12_when_18 : decode cX12_when 18 = .ok (.ldc2_w 175, 3) := dk_20 (a := 0) (b := 175) (dkn dmcX12_when (by decide +kernel)) rfl
theorem dX12_when_21 : decode cX12_when 21 = .ok (.invokestatic 169, 3) := dk_184 (a := 0) (b := 169) (dkn dmcX12_when (by decide +kernel)) rfl
theorem dX12_when_24 : decode cX12_when 24 = .ok (.ifCond .eq 16, 3) := dk_153 (a := 0) (b := 16) (dkn dmcX12_when (by decide +kernel)) rfl
theorem dX12_when_27 : decode cX12_when 27 = .ok (.iload 4, 2) := dk_21 (dkn dmcX12_when (by decide +kernel))
theorem dX12_when_29 : decode cX12_when 29 = .ok (.i2l, 1) := dk_133 (dkn dmcX12_when (by decide +kernel))
theorem dX12_when_30 : decode cX12_when 30 = .ok (.lconst 0, 1) := dk_9 (dkn dmcX12_when (by decide +kernel))
theorem dX12_when_31 : decode cX12_when 31 = .ok (.ldc2_w 325, 3) := dk_20 (a := 1) (b := 69) (dkn dmcX12_when (by decide +kernel)) rfl
theorem dX12_when_34 : decode cX12_when 34 = .ok (.invokestatic 169, 3) := dk_184 (a := 0) (b := 169) (dkn dmcX12_when (by decide +kernel)) rfl
theorem dX12_when_37 : decode cX12_when 37 = .ok (.ifCond .ne 5, 3) := dk_154 (a := 0) (b := 5) (dkn dmcX12_when (by decide +kernel)) rfl
theorem dX12_when_40 : decode cX12_when 40 = .ok (.iconst (-1), 1) := dk_2 (dkn dmcX12_when (by decide +kernel))
theorem dX12_when_41 : decode cX12_when 41 = .ok (.ireturn, 1) := dk_172 (dkn dmcX12_when (by decide +kernel))
theorem dX12_when_42 : decode cX12_when 42 = .ok (.iconst 0, 1) := dk_3 (dkn dmcX12_when (by decide +kernel))
theorem dX12_when_43 : decode cX12_when 43 = .ok (.istore 5, 2) := dk_54 (dkn dmcX12_when (by decide +kernel))
theorem dX12_when_45 : decode cX12_when 45 = .ok (.iconst 0, 1) := dk_3 (dkn dmcX12_when (by decide +kernel))
theorem dX12_when_46 : decode cX12_when 46 = .ok (.istore 6, 2) := dk_54 (dkn dmcX12_when (by decide +kernel))
theorem dX12_when_48 : decode cX12_when 48 = .ok (.iconst (-1), 1) := dk_2 (dkn dmcX12_when (by decide +kernel))
theorem dX12_when_49 : decode cX12_when 49 = .ok (.istore 7, 2) := dk_54 (dkn dmcX12_when (by decide +kernel))
theorem dX12_when_51 : decode cX12_when 51 = .ok (.iconst 0, 1) := dk_3 (dkn dmcX12_when (by decide +kernel))
theorem dX12_when_52 : decode cX12_when 52 = .ok (.istore 8, 2) := dk_54 (dkn dmcX12_when (by decide +kernel))
theorem dX12_when_54 : decode cX12_when 54 = .ok (.iload 8, 2) := dk_21 (dkn dmcX12_when (by decide +kernel))
theorem dX12_when_56 : decode cX12_when 56 = .ok (.aload_n 0, 1) := dk_42 (dkn dmcX12_when (by decide +kernel))
theorem dX12_when_57 : decode cX12_when 57 = .ok (.getfield 304, 3) := dk_180 (a := 1) (b := 48) (dkn dmcX12_when (by decide +kernel)) rfl
theorem dX12_when_60 : decode cX12_when 60 = .ok (.iconst 1, 1) := dk_4 (dkn dmcX12_when (by decide +kernel))
theorem dX12_when_61 : decode cX12_when 61 = .ok (.iadd, 1) := dk_96 (dkn dmcX12_when (by decide +kernel))
theorem dX12_when_62 : decode cX12_when 62 = .ok (.if_icmp .gt 114, 3) := dk_163 (a := 0) (b := 114) (dkn dmcX12_when (by decide +kernel)) rfl
theorem dX12_when_65 : decode cX12_when 65 = .ok (.iload 8, 2) := dk_21 (dkn dmcX12_when (by decide +kernel))
theorem dX12_when_67 : decode cX12_when 67 = .ok (.aload_n 0, 1) := dk_42 (dkn dmcX12_when (by decide +kernel))
theorem dX12_when_68 : decode cX12_when 68 = .ok (.getfield 304, 3) := dk_180 (a := 1) (b := 48) (dkn dmcX12_when (by decide +kernel)) rfl
theorem dX12_when_71 : decode cX12_when 71 = .ok (.if_icmp .gt 38, 3) := dk_163 (a := 0) (b := 38) (dkn dmcX12_when (by decide +kernel)) rfl
theorem dX12_when_74 : decode cX12_when 74 = .ok (.aload_n 0, 1) := dk_42 (dkn dmcX12_when (by decide +kernel))
theorem dX12_when_75 : decode cX12_when 75 = .ok (.getfield 68, 3) := dk_180 (a := 0) (b := 68) (dkn dmcX12_when (by decide +kernel)) rfl
theorem dX12_when_78 : decode cX12_when 78 = .ok (.bipush 28, 2) := dk_16 (a := 28) (dkn dmcX12_when (by decide +kernel)) rfl
theorem dX12_when_80 : decode cX12_when 80 = .ok (.iload 8, 2) := dk_21 (dkn dmcX12_when (by decide +kernel))
theorem dX12_when_82 : decode cX12_when 82 = .ok (.imul, 1) := dk_104 (dkn dmcX12_when (by decide +kernel))
theorem dX12_when_83 : decode cX12_when 83 = .ok (.iload_n 1, 1) := dk_27 (dkn dmcX12_when (by decide +kernel))
theorem dX12_when_84 : decode cX12_when 84 = .ok (.iadd, 1) := dk_96 (dkn dmcX12_when (by decide +kernel))
theorem dX12_when_85 : decode cX12_when 85 = .ok (.iaload, 1) := dk_46 (dkn dmcX12_when (by decide +kernel))
theorem dX12_when_86 : decode cX12_when 86 = .ok (.ifCond .ne 23, 3) := dk_154 (a := 0) (b := 23) (dkn dmcX12_when (by decide +kernel)) rfl
theorem dX12_when_89 : decode cX12_when 89 = .ok (.aload_n 0, 1) := dk_42 (dkn dmcX12_when (by decide +kernel))
theorem dX12_when_90 : decode cX12_when 90 = .ok (.getfield 71, 3) := dk_180 (a := 0) (b := 71) (dkn dmcX12_when (by decide +kernel)) rfl
theorem dX12_when_93 : decode cX12_when 93 = .ok (.bipush 28, 2) := dk_16 (a := 28) (dkn dmcX12_when (by decide +kernel)) rfl
theorem dX12_when_95 : decode cX12_when 95 = .ok (.iload 8, 2) := dk_21 (dkn dmcX12_when (by decide +kernel))
theorem dX12_when_97 : decode cX12_when 97 = .ok (.imul, 1) := dk_104 (dkn dmcX12_when (by decide +kernel))
theorem dX12_when_98 : decode cX12_when 98 = .ok (.iload_n 1, 1) := dk_27 (dkn dmcX12_when (by decide +kernel))
theorem dX12_when_99 : decode cX12_when 99 = .ok (.iadd, 1) := dk_96 (dkn dmcX12_when (by decide +kernel))
theorem dX12_when_100 : decode cX12_when 100 = .ok (.iaload, 1) := dk_46 (dkn dmcX12_when (by decide +kernel))
theorem dX12_when_101 : decode cX12_when 101 = .ok (.iload_n 2, 1) := dk_28 (dkn dmcX12_when (by decide +kernel))
theorem dX12_when_102 : decode cX12_when 102 = .ok (.if_icmp .ne 7, 3) := dk_160 (a := 0) (b := 7) (dkn dmcX12_when (by decide +kernel)) rfl
theorem dX12_when_105 : decode cX12_when 105 = .ok (.iconst 1, 1) := dk_4 (dkn dmcX12_when (by decide +kernel))
theorem dX12_when_106 : decode cX12_when 106 = .ok (.goto 4, 3) := dk_167 (a := 0) (b := 4) (dkn dmcX12_when (by decide +kernel)) rfl
theorem dX12_when_109 : decode cX12_when 109 = .ok (.iconst 0, 1) := dk_3 (dkn dmcX12_when (by decide +kernel))
theorem dX12_when_110 : decode cX12_when 110 = .ok (.istore 9, 2) := dk_54 (dkn dmcX12_when (by decide +kernel))
theorem dX12_when_112 : decode cX12_when 112 = .ok (.iload 9, 2) := dk_21 (dkn dmcX12_when (by decide +kernel))
theorem dX12_when_114 : decode cX12_when 114 = .ok (.ifCond .eq 12, 3) := dk_153 (a := 0) (b := 12) (dkn dmcX12_when (by decide +kernel)) rfl
theorem dX12_when_117 : decode cX12_when 117 = .ok (.iload 6, 2) := dk_21 (dkn dmcX12_when (by decide +kernel))
theorem dX12_when_119 : decode cX12_when 119 = .ok (.ifCond .ne 7, 3) := dk_154 (a := 0) (b := 7) (dkn dmcX12_when (by decide +kernel)) rfl
theorem dX12_when_122 : decode cX12_when 122 = .ok (.iload 8, 2) := dk_21 (dkn dmcX12_when (by decide +kernel))
theorem dX12_when_124 : decode cX12_when 124 = .ok (.istore 7, 2) := dk_54 (dkn dmcX12_when (by decide +kernel))
theorem dX12_when_126 : decode cX12_when 126 = .ok (.iload 9, 2) := dk_21 (dkn dmcX12_when (by decide +kernel))
theorem dX12_when_128 : decode cX12_when 128 = .ok (.ifCond .ne 38, 3) := dk_154 (a := 0) (b := 38) (dkn dmcX12_when (by decide +kernel)) rfl
theorem dX12_when_131 : decode cX12_when 131 = .ok (.iload 6, 2) := dk_21 (dkn dmcX12_when (by decide +kernel))
theorem dX12_when_133 : decode cX12_when 133 = .ok (.ifCond .eq 33, 3) := dk_153 (a := 0) (b := 33) (dkn dmcX12_when (by decide +kernel)) rfl
theorem dX12_when_136 : decode cX12_when 136 = .ok (.iload 5, 2) := dk_21 (dkn dmcX12_when (by decide +kernel))
theorem dX12_when_138 : decode cX12_when 138 = .ok (.iload_n 3, 1) := dk_29 (dkn dmcX12_when (by decide +kernel))
theorem dX12_when_139 : decode cX12_when 139 = .ok (.if_icmp .ne 24, 3) := dk_160 (a := 0) (b := 24) (dkn dmcX12_when (by decide +kernel)) rfl
theorem dX12_when_142 : decode cX12_when 142 = .ok (.iload 4, 2) := dk_21 (dkn dmcX12_when (by decide +kernel))
theorem dX12_when_144 : decode cX12_when 144 = .ok (.ifCond .le 19, 3) := dk_158 (a := 0) (b := 19) (dkn dmcX12_when (by decide +kernel)) rfl
theorem dX12_when_147 : decode cX12_when 147 = .ok (.iload 4, 2) := dk_21 (dkn dmcX12_when (by decide +kernel))
theorem dX12_when_149 : decode cX12_when 149 = .ok (.iconst 1, 1) := dk_4 (dkn dmcX12_when (by decide +kernel))
theorem dX12_when_150 : decode cX12_when 150 = .ok (.if_icmp .ne 8, 3) := dk_160 (a := 0) (b := 8) (dkn dmcX12_when (by decide +kernel)) rfl
theorem dX12_when_153 : decode cX12_when 153 = .ok (.iload 7, 2) := dk_21 (dkn dmcX12_when (by decide +kernel))
theorem dX12_when_155 : decode cX12_when 155 = .ok (.goto 7, 3) := dk_167 (a := 0) (b := 7) (dkn dmcX12_when (by decide +kernel)) rfl
theorem dX12_when_158 : decode cX12_when 158 = .ok (.iload 8, 2) := dk_21 (dkn dmcX12_when (by decide +kernel))
theorem dX12_when_160 : decode cX12_when 160 = .ok (.iconst 1, 1) := dk_4 (dkn dmcX12_when (by decide +kernel))
theorem dX12_when_161 : decode cX12_when 161 = .ok (.isub, 1) := dk_100 (dkn dmcX12_when (by decide +kernel))
theorem dX12_when_162 : decode cX12_when 162 = .ok (.ireturn, 1) := dk_172 (dkn dmcX12_when (by decide +kernel))
theorem dX12_when_163 : decode cX12_when 163 = .ok (.iinc 5 1, 3) := dk_132 (b := 1) (dkn dmcX12_when (by decide +kernel)) rfl
theorem dX12_when_166 : decode cX12_when 166 = .ok (.iload 9, 2) := dk_21 (dkn dmcX12_when (by decide +kernel))
theorem dX12_when_168 : decode cX12_when 168 = .ok (.istore 6, 2) := dk_54 (dkn dmcX12_when (by decide +kernel))
theorem dX12_when_170 : decode cX12_when 170 = .ok (.iinc 8 1, 3) := dk_132 (b := 1) (dkn dmcX12_when (by decide +kernel)) rfl
theorem dX12_when_173 : decode cX12_when 173 = .ok (.goto (-119), 3) := dk_167 (a := 255) (b := 137) (dkn dmcX12_when (by decide +kernel)) rfl
theorem dX12_when_176 : decode cX12_when 176 = .ok (.iload 4, 2) := dk_21 (dkn dmcX12_when (by decide +kernel))
theorem dX12_when_178 : decode cX12_when 178 = .ok (.ifCond .ne 8, 3) := dk_154 (a := 0) (b := 8) (dkn dmcX12_when (by decide +kernel)) rfl
theorem dX12_when_181 : decode cX12_when 181 = .ok (.iload 5, 2) := dk_21 (dkn dmcX12_when (by decide +kernel))
theorem dX12_when_183 : decode cX12_when 183 = .ok (.goto 4, 3) := dk_167 (a := 0) (b := 4) (dkn dmcX12_when (by decide +kernel)) rfl
theorem dX12_when_186 : decode cX12_when 186 = .ok (.iconst (-1), 1) := dk_2 (dkn dmcX12_when (by decide +kernel))
theorem dX12_when_187 : decode cX12_when 187 = .ok (.ireturn, 1) := dk_172 (dkn dmcX12_when (by decide +kernel))
def dncX12_isDirect : Nat := 0xac030400a7040700994701b61c1b2a0c009a041511009a1d0436030400a7040700a02e1c6000b42a2e1b7200b42a1600a0072e1b6f00b42a3e030400a7040700a02e1c7200b42a2e1b7200b42a1600a0042e1c6f00b42a2000a0052e1b6f00b42aac040500a02e1c6000b42a2e1b6000b42a
theorem dmcX12_isDirect : dkc dncX12_isDirect 114 cX12_isDirect.data.toList 0 = true := by decide +kernel
theorem dX12_isDirect_0 : decode cX12_isDirect 0 = .ok (.aload_n 0, 1) := dk_42 (dkn dmcX12_isDirect (by decide +kernel))
theorem dX12_isDirect_1 : decode cX12_isDirect 1 = .ok (.getfield 96, 3) := dk_180 (a := 0) (b := 96) (dkn dmcX12_isDirect (by decide +kernel)) rfl
theorem dX12_isDirect_4 : decode cX12_isDirect 4 = .ok (.iload_n 1, 1) := dk_27 (dkn dmcX12_isDirect (by decide +kernel))
theorem dX12_isDirect_5 : decode cX12_isDirect 5 = .ok (.iaload, 1) := dk_46 (dkn dmcX12_isDirect (by decide +kernel))
theorem dX12_isDirect_6 : decode cX12_isDirect 6 = .ok (.aload_n 0, 1) := dk_42 (dkn dmcX12_isDirect (by decide +kernel))
theorem dX12_isDirect_7 : decode cX12_isDirect 7 = .ok (.getfield 96, 3) := dk_180 (a := 0) (b := 96) (dkn dmcX12_isDirect (by decide +kernel)) rfl
theorem dX12_isDirect_10 : decode cX12_isDirect 10 = .ok (.iload_n 2, 1) := dk_28 (dkn dmcX12_isDirect (by decide +kernel))
theorem dX12_isDirect_11 : decode cX12_isDirect 11 = .ok (.iaload, 1) := dk_46 (dkn dmcX12_isDirect (by decide +kernel))
theorem dX12_isDirect_12 : decode cX12_isDirect 12 = .ok (.if_icmp .ne 5, 3) := dk_160 (a := 0) (b := 5) (dkn dmcX12_isDirect (by decide +kernel)) rfl
theorem dX12_isDirect_15 : decode cX12_isDirect 15 = .ok (.iconst 1, 1) := dk_4 (dkn dmcX12_isDirect (by decide +kernel))
theorem dX12_isDirect_16 : decode cX12_isDirect 16 = .ok (.ireturn, 1) := dk_172 (dkn dmcX12_isDirect (by decide +kernel))
theorem dX12_isDirect_17 : decode cX12_isDirect 17 = .ok (.aload_n 0, 1) := dk_42 (dkn dmcX12_isDirect (by decide +kernel))
theorem dX12_isDirect_18 : decode cX12_isDirect 18 = .ok (.getfield 111, 3) := dk_180 (a := 0) (b := 111) (dkn dmcX12_isDirect (by decide +kernel)) rfl
theorem dX12_isDirect_21 : decode cX12_isDirect 21 = .ok (.iload_n 1, 1) := dk_27 (dkn dmcX12_isDirect (by decide +kernel))
theorem dX12_isDirect_22 : decode cX12_isDirect 22 = .ok (.iaload, 1) := dk_46 (dkn dmcX12_isDirect (by decide +kernel))
theorem dX12_isDirect_23 : decode cX12_isDirect 23 = .ok (.iconst 2, 1) := dk_5 (dkn dmcX12_isDirect (by decide +kernel))
theorem dX12_isDirect_24 : decode cX12_isDirect 24 = .ok (.if_icmp .ne 32, 3) := dk_160 (a := 0) (b := 32) (dkn dmcX12_isDirect (by decide +kernel)) rfl
theorem dX12_isDirect_27 : decode cX12_isDirect 27 = .ok (.aload_n 0, 1) := dk_42 (dkn dmcX12_isDirect (by decide +kernel))
theorem dX12_isDirect_28 : decode cX12_isDirect 28 = .ok (.getfield 111, 3) := dk_180 (a := 0) (b := 111) (dkn dmcX12_isDirect (by decide +kernel)) rfl
theorem dX12_isDirect_31 : decode cX12_isDirect 31 = .ok (.iload_n 2, 1) := dk_28 (dkn dmcX12_isDirect (by decide +kernel))
theorem dX12_isDirect_32 : decode cX12_isDirect 32 = .ok (.iaload, 1) := dk_46 (dkn dmcX12_isDirect (by decide +kernel))
theorem dX12_isDirect_33 : decode cX12_isDirect 33 = .ok (.iconst 1, 1) := dk_4 (dkn dmcX12_isDirect (by decide +kernel))
theorem dX12_isDirect_34 : decode cX12_isDirect 34 = .ok (.if_icmp .ne 22, 3) := dk_160 (a := 0) (b := 22) (dkn dmcX12_isDirect (by decide +kernel)) rfl
theorem dX12_isDirect_37 : decode cX12_isDirect 37 = .ok (.aload_n 0, 1) := dk_42 (dkn dmcX12_isDirect (by decide +kernel))
theorem dX12_isDirect_38 : decode cX12_isDirect 38 = .ok (.getfield 114, 3) := dk_180 (a := 0) (b := 114) (dkn dmcX12_isDirect (by decide +kernel)) rfl
theorem dX12_isDirect_41 : decode cX12_isDirect 41 = .ok (.iload_n 1, 1) := dk_27 (dkn dmcX12_isDirect (by decide +kernel))
theorem dX12_isDirect_42 : decode cX12_isDirect 42 = .ok (.iaload, 1) := dk_46 (dkn dmcX12_isDirect (by decide +kernel))
theorem dX12_isDirect_43 : decode cX12_isDirect 43 = .ok (.aload_n 0, 1) := dk_42 (dkn dmcX12_isDirect (by decide +kernel))
theorem dX12_isDirect_44 : decode cX12_isDirect 44 = .ok (.getfield 114, 3) := dk_180 (a := 0) (b := 114) (dkn dmcX12_isDirect (by decide +kernel)) rfl
theorem dX12_isDirect_47 : decode cX12_isDirect 47 = .ok (.iload_n 2, 1) := dk_28 (dkn dmcX12_isDirect (by decide +kernel))
theorem dX12_isDirect_48 : decode cX12_isDirect 48 = .ok (.iaload, 1) := dk_46 (dkn dmcX12_isDirect (by decide +kernel))
theorem dX12_isDirect_49 : decode cX12_isDirect 49 = .ok (.if_icmp .ne 7, 3) := dk_160 (a := 0) (b := 7) (dkn dmcX12_isDirect (by decide +kernel)) rfl
theorem dX12_isDirect_52 : decode cX12_isDirect 52 = .ok (.iconst 1, 1) := dk_4 (dkn dmcX12_isDirect (by decide +kernel))
theorem dX12_isDirect_53 : decode cX12_isDirect 53 = .ok (.goto 4, 3) := dk_167 (a := 0) (b := 4) (dkn dmcX12_isDirect (by decide +kernel)) rfl
theorem dX12_isDirect_56 : decode cX12_isDirect 56 = .ok (.iconst 0, 1) := dk_3 (dkn dmcX12_isDirect (by decide +kernel))
theorem dX12_isDirect_57 : decode cX12_isDirect 57 = .ok (.istore_n 3, 1) := dk_62 (dkn dmcX12_isDirect (by decide +kernel))
theorem dX12_isDirect_58 : decode cX12_isDirect 58 = .ok (.aload_n 0, 1) := dk_42 (dkn dmcX12_isDirect (by decide +kernel))
theorem dX12_isDirect_59 : decode cX12_isDirect 59 = .ok (.getfield 111, 3) := dk_180 (a := 0) (b := 111) (dkn dmcX12_isDirect (by decide +kernel)) rfl
theorem dX12_isDirect_62 : decode cX12_isDirect 62 = .ok (.iload_n 1, 1) := dk_27 (dkn dmcX12_isDirect (by decide +kernel))
theorem dX12_isDirect_63 : decode cX12_isDirect 63 = .ok (.iaload, 1) := dk_46 (dkn dmcX12_isDirect (by decide +kernel))
theorem dX12_isDirect_64 : decode cX12_isDirect 64 = .ok (.iconst 4, 1) := dk_7 (dkn dmcX12_isDirect (by decide +kernel))
theorem dX12_isDirect_65 : decode cX12_isDirect 65 = .ok (.if_icmp .ne 22, 3) := dk_160 (a := 0) (b := 22) (dkn dmcX12_isDirect (by decide +kernel)) rfl
theorem dX12_isDirect_68 : decode cX12_isDirect 68 = .ok (.aload_n 0, 1) := dk_42 (dkn dmcX12_isDirect (by decide +kernel))
theorem dX12_isDirect_69 : decode cX12_isDirect 69 = .ok (.getfield 114, 3) := dk_180 (a := 0) (b := 114) (dkn dmcX12_isDirect (by decide +kernel)) rfl
theorem dX12_isDirect_72 : decode cX12_isDirect 72 = .ok (.iload_n 1, 1) := dk_27 (dkn dmcX12_isDirect (by decide +kernel))
theorem dX12_isDirect_73 : decode cX12_isDirect 73 = .ok (.iaload, 1) := dk_46 (dkn dmcX12_isDirect (by decide +kernel))
theorem dX12_isDirect_74 : decode cX12_isDirect 74 = .ok (.aload_n 0, 1) := dk_42 (dkn dmcX12_isDirect (by decide +kernel))
theorem dX12_isDirect_75 : decode cX12_isDirect 75 = .ok (.getfield 96, 3) := dk_180 (a := 0) (b := 96) (dkn dmcX12_isDirect (by decide +kernel)) rfl
theorem dX12_isDirect_78 : decode cX12_isDirect 78 = .ok (.iload_n 2, 1) := dk_28 (dkn dmcX12_isDirect (by decide +kernel))
theorem dX12_isDirect_79 : decode cX12_isDirect 79 = .ok (.iaload, 1) := dk_46 (dkn dmcX12_isDirect (by decide +kernel))
theorem dX12_isDirect_80 : decode cX12_isDirect 80 = .ok (.if_icmp .ne 7, 3) := dk_160 (a := 0) (b := 7) (dkn dmcX12_isDirect (by decide +kernel)) rfl
theorem dX12_isDirect_83 : decode cX12_isDirect 83 = .ok (.iconst 1, 1) := dk_4 (dkn dmcX12_isDirect (by decide +kernel))
theorem dX12_isDirect_84 : decode cX12_isDirect 84 = .ok (.goto 4, 3) := dk_167 (a := 0) (b := 4) (dkn dmcX12_isDirect (by decide +kernel)) rfl
theorem dX12_isDirect_87 : decode cX12_isDirect 87 = .ok (.iconst 0, 1) := dk_3 (dkn dmcX12_isDirect (by decide +kernel))
theorem dX12_isDirect_88 : decode cX12_isDirect 88 = .ok (.istore 4, 2) := dk_54 (dkn dmcX12_isDirect (by decide +kernel))
theorem dX12_isDirect_90 : decode cX12_isDirect 90 = .ok (.iload_n 3, 1) := dk_29 (dkn dmcX12_isDirect (by decide +kernel))
theorem dX12_isDirect_91 : decode cX12_isDirect 91 = .ok (.ifCond .ne 17, 3) := dk_154 (a := 0) (b := 17) (dkn dmcX12_isDirect (by decide +kernel)) rfl
theorem dX12_isDirect_94 : decode cX12_isDirect 94 = .ok (.iload 4, 2) := dk_21 (dkn dmcX12_isDirect (by decide +kernel))
theorem dX12_isDirect_96 : decode cX12_isDirect 96 = .ok (.ifCond .ne 12, 3) := dk_154 (a := 0) (b := 12) (dkn dmcX12_isDirect (by decide +kernel)) rfl
theorem dX12_isDirect_99 : decode cX12_isDirect 99 = .ok (.aload_n 0, 1) := dk_42 (dkn dmcX12_isDirect (by decide +kernel))
theorem dX12_isDirect_100 : decode cX12_isDirect 100 = .ok (.iload_n 1, 1) := dk_27 (dkn dmcX12_isDirect (by decide +kernel))
theorem dX12_isDirect_101 : decode cX12_isDirect 101 = .ok (.iload_n 2, 1) := dk_28 (dkn dmcX12_isDirect (by decide +kernel))
theorem dX12_isDirect_102 : decode cX12_isDirect 102 = .ok (.invokevirtual 327, 3) := dk_182 (a := 1) (b := 71) (dkn dmcX12_isDirect (by decide +kernel)) rfl
theorem dX12_isDirect_105 : decode cX12_isDirect 105 = .ok (.ifCond .eq 7, 3) := dk_153 (a := 0) (b := 7) (dkn dmcX12_isDirect (by decide +kernel)) rfl
theorem dX12_isDirect_108 : decode cX12_isDirect 108 = .ok (.iconst 1, 1) := dk_4 (dkn dmcX12_isDirect (by decide +kernel))
theorem dX12_isDirect_109 : decode cX12_isDirect 109 = .ok (.goto 4, 3) := dk_167 (a := 0) (b := 4) (dkn dmcX12_isDirect (by decide +kernel)) rfl
theorem dX12_isDirect_112 : decode cX12_isDirect 112 = .ok (.iconst 0, 1) := dk_3 (dkn dmcX12_isDirect (by decide +kernel))
theorem dX12_isDirect_113 : decode cX12_isDirect 113 = .ok (.ireturn, 1) := dk_172 (dkn dmcX12_isDirect (by decide +kernel))
def dncX12_isWaking : Nat := 0xac0415d0ffa70105840436030400a70407009f2e1b7200b42a2e05157200b42a1300a0062e05156f00b42a22009904153000a21b0515053660041d0436030400a7040700a21b1de0ffa70104843e1d0400a704150800a02e1c6000b42a2e04156000b42a2000a21c04150436043e03ac0305009f2e1c7200b42a2e1b7200b42a1200a0042e1c6f00b42a1c00a00e102e1c6600b42a2700a0062e1b6f00b42a
theorem dmcX12_isWaking : dkc dncX12_isWaking 159 cX12_isWaking.data.toList 0 = true := by decide +kernel
theorem dX12_isWaking_0 : decode cX12_isWaking 0 = .ok (.aload_n 0, 1) := dk_42 (dkn dmcX12_isWaking (by decide +kernel))
theorem dX12_isWaking_1 : decode cX12_isWaking 1 = .ok (.getfield 111, 3) := dk_180 (a := 0) (b := 111) (dkn dmcX12_isWaking (by decide +kernel)) rfl
theorem dX12_isWaking_4 : decode cX12_isWaking 4 = .ok (.iload_n 1, 1) := dk_27 (dkn dmcX12_isWaking (by decide +kernel))
theorem dX12_isWaking_5 : decode cX12_isWaking 5 = .ok (.iaload, 1) := dk_46 (dkn dmcX12_isWaking (by decide +kernel))
theorem dX12_isWaking_6 : decode cX12_isWaking 6 = .ok (.iconst 3, 1) := dk_6 (dkn dmcX12_isWaking (by decide +kernel))
theorem dX12_isWaking_7 : decode cX12_isWaking 7 = .ok (.if_icmp .ne 39, 3) := dk_160 (a := 0) (b := 39) (dkn dmcX12_isWaking (by decide +kernel)) rfl
theorem dX12_isWaking_10 : decode cX12_isWaking 10 = .ok (.aload_n 0, 1) := dk_42 (dkn dmcX12_isWaking (by decide +kernel))
theorem dX12_isWaking_11 : decode cX12_isWaking 11 = .ok (.getfield 102, 3) := dk_180 (a := 0) (b := 102) (dkn dmcX12_isWaking (by decide +kernel)) rfl
theorem dX12_isWaking_14 : decode cX12_isWaking 14 = .ok (.iload_n 2, 1) := dk_28 (dkn dmcX12_isWaking (by decide +kernel))
theorem dX12_isWaking_15 : decode cX12_isWaking 15 = .ok (.iaload, 1) := dk_46 (dkn dmcX12_isWaking (by decide +kernel))
theorem dX12_isWaking_16 : decode cX12_isWaking 16 = .ok (.bipush 14, 2) := dk_16 (a := 14) (dkn dmcX12_isWaking (by decide +kernel)) rfl
theorem dX12_isWaking_18 : decode cX12_isWaking 18 = .ok (.if_icmp .ne 28, 3) := dk_160 (a := 0) (b := 28) (dkn dmcX12_isWaking (by decide +kernel)) rfl
theorem dX12_isWaking_21 : decode cX12_isWaking 21 = .ok (.aload_n 0, 1) := dk_42 (dkn dmcX12_isWaking (by decide +kernel))
theorem dX12_isWaking_22 : decode cX12_isWaking 22 = .ok (.getfield 111, 3) := dk_180 (a := 0) (b := 111) (dkn dmcX12_isWaking (by decide +kernel)) rfl
theorem dX12_isWaking_25 : decode cX12_isWaking 25 = .ok (.iload_n 2, 1) := dk_28 (dkn dmcX12_isWaking (by decide +kernel))
theorem dX12_isWaking_26 : decode cX12_isWaking 26 = .ok (.iaload, 1) := dk_46 (dkn dmcX12_isWaking (by decide +kernel))
theorem dX12_isWaking_27 : decode cX12_isWaking 27 = .ok (.iconst 1, 1) := dk_4 (dkn dmcX12_isWaking (by decide +kernel))
theorem dX12_isWaking_28 : decode cX12_isWaking 28 = .ok (.if_icmp .ne 18, 3) := dk_160 (a := 0) (b := 18) (dkn dmcX12_isWaking (by decide +kernel)) rfl
theorem dX12_isWaking_31 : decode cX12_isWaking 31 = .ok (.aload_n 0, 1) := dk_42 (dkn dmcX12_isWaking (by decide +kernel))
theorem dX12_isWaking_32 : decode cX12_isWaking 32 = .ok (.getfield 114, 3) := dk_180 (a := 0) (b := 114) (dkn dmcX12_isWaking (by decide +kernel)) rfl
theorem dX12_isWaking_35 : decode cX12_isWaking 35 = .ok (.iload_n 1, 1) := dk_27 (dkn dmcX12_isWaking (by decide +kernel))
theorem dX12_isWaking_36 : decode cX12_isWaking 36 = .ok (.iaload, 1) := dk_46 (dkn dmcX12_isWaking (by decide +kernel))
theorem dX12_isWaking_37 : decode cX12_isWaking 37 = .ok (.aload_n 0, 1) := dk_42 (dkn dmcX12_isWaking (by decide +kernel))
theorem dX12_isWaking_38 : decode cX12_isWaking 38 = .ok (.getfield 114, 3) := dk_180 (a := 0) (b := 114) (dkn dmcX12_isWaking (by decide +kernel)) rfl
theorem dX12_isWaking_41 : decode cX12_isWaking 41 = .ok (.iload_n 2, 1) := dk_28 (dkn dmcX12_isWaking (by decide +kernel))
theorem dX12_isWaking_42 : decode cX12_isWaking 42 = .ok (.iaload, 1) := dk_46 (dkn dmcX12_isWaking (by decide +kernel))
theorem dX12_isWaking_43 : decode cX12_isWaking 43 = .ok (.if_icmp .eq 5, 3) := dk_159 (a := 0) (b := 5) (dkn dmcX12_isWaking (by decide +kernel)) rfl
theorem dX12_isWaking_46 : decode cX12_isWaking 46 = .ok (.iconst 0, 1) := dk_3 (dkn dmcX12_isWaking (by decide +kernel))
theorem dX12_isWaking_47 : decode cX12_isWaking 47 = .ok (.ireturn, 1) := dk_172 (dkn dmcX12_isWaking (by decide +kernel))
theorem dX12_isWaking_48 : decode cX12_isWaking 48 = .ok (.iconst 0, 1) := dk_3 (dkn dmcX12_isWaking (by decide +kernel))
theorem dX12_isWaking_49 : decode cX12_isWaking 49 = .ok (.istore_n 3, 1) := dk_62 (dkn dmcX12_isWaking (by decide +kernel))
theorem dX12_isWaking_50 : decode cX12_isWaking 50 = .ok (.iconst 1, 1) := dk_4 (dkn dmcX12_isWaking (by decide +kernel))
theorem dX12_isWaking_51 : decode cX12_isWaking 51 = .ok (.istore 4, 2) := dk_54 (dkn dmcX12_isWaking (by decide +kernel))
theorem dX12_isWaking_53 : decode cX12_isWaking 53 = .ok (.iload 4, 2) := dk_21 (dkn dmcX12_isWaking (by decide +kernel))
theorem dX12_isWaking_55 : decode cX12_isWaking 55 = .ok (.iload_n 2, 1) := dk_28 (dkn dmcX12_isWaking (by decide +kernel))
theorem dX12_isWaking_56 : decode cX12_isWaking 56 = .ok (.if_icmp .ge 32, 3) := dk_162 (a := 0) (b := 32) (dkn dmcX12_isWaking (by decide +kernel)) rfl
theorem dX12_isWaking_59 : decode cX12_isWaking 59 = .ok (.aload_n 0, 1) := dk_42 (dkn dmcX12_isWaking (by decide +kernel))
theorem dX12_isWaking_60 : decode cX12_isWaking 60 = .ok (.getfield 96, 3) := dk_180 (a := 0) (b := 96) (dkn dmcX12_isWaking (by decide +kernel)) rfl
theorem dX12_isWaking_63 : decode cX12_isWaking 63 = .ok (.iload 4, 2) := dk_21 (dkn dmcX12_isWaking (by decide +kernel))
theorem dX12_isWaking_65 : decode cX12_isWaking 65 = .ok (.iaload, 1) := dk_46 (dkn dmcX12_isWaking (by decide +kernel))
theorem dX12_isWaking_66 : decode cX12_isWaking 66 = .ok (.aload_n 0, 1) := dk_42 (dkn dmcX12_isWaking (by decide +kernel))
theorem dX12_isWaking_67 : decode cX12_isWaking 67 = .ok (.getfield 96, 3) := dk_180 (a := 0) (b := 96) (dkn dmcX12_isWaking (by decide +kernel)) rfl
theorem dX12_isWaking_70 : decode cX12_isWaking 70 = .ok (.iload_n 2, 1) := dk_28 (dkn dmcX12_isWaking (by decide +kernel))
theorem dX12_isWaking_71 : decode cX12_isWaking 71 = .ok (.iaload, 1) := dk_46 (dkn dmcX12_isWaking (by decide +kernel))
theorem dX12_isWaking_72 : decode cX12_isWaking 72 = .ok (.if_icmp .ne 8, 3) := dk_160 (a := 0) (b := 8) (dkn dmcX12_isWaking (by decide +kernel)) rfl
theorem dX12_isWaking_75 : decode cX12_isWaking 75 = .ok (.iload 4, 2) := dk_21 (dkn dmcX12_isWaking (by decide +kernel))
theorem dX12_isWaking_77 : decode cX12_isWaking 77 = .ok (.goto 4, 3) := dk_167 (a := 0) (b := 4) (dkn dmcX12_isWaking (by decide +kernel)) rfl
theorem dX12_isWaking_80 : decode cX12_isWaking 80 = .ok (.iload_n 3, 1) := dk_29 (dkn dmcX12_isWaking (by decide +kernel))
theorem dX12_isWaking_81 : decode cX12_isWaking 81 = .ok (.istore_n 3, 1) := dk_62 (dkn dmcX12_isWaking (by decide +kernel))
theorem dX12_isWaking_82 : decode cX12_isWaking 82 = .ok (.iinc 4 1, 3) := dk_132 (b := 1) (dkn dmcX12_isWaking (by decide +kernel)) rfl
theorem dX12_isWaking_85 : decode cX12_isWaking 85 = .ok (.goto (-32), 3) := dk_167 (a := 255) (b := 224) (dkn dmcX12_isWaking (by decide +kernel)) rfl
theorem dX12_isWaking_88 : decode cX12_isWaking 88 = .ok (.iload_n 3, 1) := dk_29 (dkn dmcX12_isWaking (by decide +kernel))
theorem dX12_isWaking_89 : decode cX12_isWaking 89 = .ok (.iload_n 1, 1) := dk_27 (dkn dmcX12_isWaking (by decide +kernel))
theorem dX12_isWaking_90 : decode cX12_isWaking 90 = .ok (.if_icmp .ge 7, 3) := dk_162 (a := 0) (b := 7) (dkn dmcX12_isWaking (by decide +kernel)) rfl
theorem dX12_isWaking_93 : decode cX12_isWaking 93 = .ok (.iconst 1, 1) := dk_4 (dkn dmcX12_isWaking (by decide +kernel))
theorem dX12_isWaking_94 : decode cX12_isWaking 94 = .ok (.goto 4, 3) := dk_167 (a := 0) (b := 4) (dkn dmcX12_isWaking (by decide +kernel)) rfl
theorem dX12_isWaking_97 : decode cX12_isWaking 97 = .ok (.iconst 0, 1) := dk_3 (dkn dmcX12_isWaking (by decide +kernel))
theorem dX12_isWaking_98 : decode cX12_isWaking 98 = .ok (.istore 4, 2) := dk_54 (dkn dmcX12_isWaking (by decide +kernel))
theorem dX12_isWaking_100 : decode cX12_isWaking 100 = .ok (.iload_n 3, 1) := dk_29 (dkn dmcX12_isWaking (by decide +kernel))
theorem dX12_isWaking_101 : decode cX12_isWaking 101 = .ok (.iconst 1, 1) := dk_4 (dkn dmcX12_isWaking (by decide +kernel))
theorem dX12_isWaking_102 : decode cX12_isWaking 102 = .ok (.iadd, 1) := dk_96 (dkn dmcX12_isWaking (by decide +kernel))
theorem dX12_isWaking_103 : decode cX12_isWaking 103 = .ok (.istore 5, 2) := dk_54 (dkn dmcX12_isWaking (by decide +kernel))
theorem dX12_isWaking_105 : decode cX12_isWaking 105 = .ok (.iload 5, 2) := dk_21 (dkn dmcX12_isWaking (by decide +kernel))
theorem dX12_isWaking_107 : decode cX12_isWaking 107 = .ok (.iload_n 1, 1) := dk_27 (dkn dmcX12_isWaking (by decide +kernel))
theorem dX12_isWaking_108 : decode cX12_isWaking 108 = .ok (.if_icmp .ge 48, 3) := dk_162 (a := 0) (b := 48) (dkn dmcX12_isWaking (by decide +kernel)) rfl
theorem dX12_isWaking_111 : decode cX12_isWaking 111 = .ok (.iload 4, 2) := dk_21 (dkn dmcX12_isWaking (by decide +kernel))
theorem dX12_isWaking_113 : decode cX12_isWaking 113 = .ok (.ifCond .eq 34, 3) := dk_153 (a := 0) (b := 34) (dkn dmcX12_isWaking (by decide +kernel)) rfl
theorem dX12_isWaking_116 : decode cX12_isWaking 116 = .ok (.aload_n 0, 1) := dk_42 (dkn dmcX12_isWaking (by decide +kernel))
theorem dX12_isWaking_117 : decode cX12_isWaking 117 = .ok (.getfield 111, 3) := dk_180 (a := 0) (b := 111) (dkn dmcX12_isWaking (by decide +kernel)) rfl
theorem dX12_isWaking_120 : decode cX12_isWaking 120 = .ok (.iload 5, 2) := dk_21 (dkn dmcX12_isWaking (by decide +kernel))
theorem dX12_isWaking_122 : decode cX12_isWaking 122 = .ok (.iaload, 1) := dk_46 (dkn dmcX12_isWaking (by decide +kernel))
theorem dX12_isWaking_123 : decode cX12_isWaking 123 = .ok (.iconst 3, 1) := dk_6 (dkn dmcX12_isWaking (by decide +kernel))
theorem dX12_isWaking_124 : decode cX12_isWaking 124 = .ok (.if_icmp .ne 19, 3) := dk_160 (a := 0) (b := 19) (dkn dmcX12_isWaking (by decide +kernel)) rfl
theorem dX12_isWaking_127 : decode cX12_isWaking 127 = .ok (.aload_n 0, 1) := dk_42 (dkn dmcX12_isWaking (by decide +kernel))
theorem dX12_isWaking_128 : decode cX12_isWaking 128 = .ok (.getfield 114, 3) := dk_180 (a := 0) (b := 114) (dkn dmcX12_isWaking (by decide +kernel)) rfl
theorem dX12_isWaking_131 : decode cX12_isWaking 131 = .ok (.iload 5, 2) := dk_21 (dkn dmcX12_isWaking (by decide +kernel))
theorem dX12_isWaking_133 : decode cX12_isWaking 133 = .ok (.iaload, 1) := dk_46 (dkn dmcX12_isWaking (by decide +kernel))
theorem dX12_isWaking_134 : decode cX12_isWaking 134 = .ok (.aload_n 0, 1) := dk_42 (dkn dmcX12_isWaking (by decide +kernel))
theorem dX12_isWaking_135 : decode cX12_isWaking 135 = .ok (.getfield 114, 3) := dk_180 (a := 0) (b := 114) (dkn dmcX12_isWaking (by decide +kernel)) rfl
theorem dX12_isWaking_138 : decode cX12_isWaking 138 = .ok (.iload_n 1, 1) := dk_27 (dkn dmcX12_isWaking (by decide +kernel))
theorem dX12_isWaking_139 : decode cX12_isWaking 139 = .ok (.iaload, 1) := dk_46 (dkn dmcX12_isWaking (by decide +kernel))
theorem dX12_isWaking_140 : decode cX12_isWaking 140 = .ok (.if_icmp .eq 7, 3) := dk_159 (a := 0) (b := 7) (dkn dmcX12_isWaking (by decide +kernel)) rfl
theorem dX12_isWaking_143 : decode cX12_isWaking 143 = .ok (.iconst 1, 1) := dk_4 (dkn dmcX12_isWaking (by decide +kernel))
theorem dX12_isWaking_144 : decode cX12_isWaking 144 = .ok (.goto 4, 3) := dk_167 (a := 0) (b := 4) (dkn dmcX12_isWaking (by decide +kernel)) rfl
theorem dX12_isWaking_147 : decode cX12_isWaking 147 = .ok (.iconst 0, 1) := dk_3 (dkn dmcX12_isWaking (by decide +kernel))
theorem dX12_isWaking_148 : decode cX12_isWaking 148 = .ok (.istore 4, 2) := dk_54 (dkn dmcX12_isWaking (by decide +kernel))
theorem dX12_isWaking_150 : decode cX12_isWaking 150 = .ok (.iinc 5 1, 3) := dk_132 (b := 1) (dkn dmcX12_isWaking (by decide +kernel)) rfl
theorem dX12_isWaking_153 : decode cX12_isWaking 153 = .ok (.goto (-48), 3) := dk_167 (a := 255) (b := 208) (dkn dmcX12_isWaking (by decide +kernel)) rfl
theorem dX12_isWaking_156 : decode cX12_isWaking 156 = .ok (.iload 4, 2) := dk_21 (dkn dmcX12_isWaking (by decide +kernel))
theorem dX12_isWaking_158 : decode cX12_isWaking 158 = .ok (.ireturn, 1) := dk_172 (dkn dmcX12_isWaking (by decide +kernel))
def dncX12_findAhead : Nat := 0xb16cffa701018498ffa7ff0284c9ffa701038454030400a70407009933601c681d2d01117f00b42a12009a33601b681d2d01117f00b42a601b681d2d01117f00b42a3800a21c1d3e045404601b681c2d01117f00b42a4c00994b01b61b1c2a55009a33601b681c2d01117f00b42a6a009e1c3d64041bebffa70102845403601b681c2d01117f00b42a1600a21b1c3d049200a33001b42a1b3c042001b5042ab10400992001b42a
theorem dmcX12_findAhead : dkc dncX12_findAhead 167 cX12_findAhead.data.toList 0 = true := by decide +kernel
theorem dX12_findAhead_0 : decode cX12_findAhead 0 = .ok (.aload_n 0, 1) := dk_42 (dkn dmcX12_findAhead (by decide +kernel))
theorem dX12_findAhead_1 : decode cX12_findAhead 1 = .ok (.getfield 288, 3) := dk_180 (a := 1) (b := 32) (dkn dmcX12_findAhead (by decide +kernel)) rfl
theorem dX12_findAhead_4 : decode cX12_findAhead 4 = .ok (.ifCond .eq 4, 3) := dk_153 (a := 0) (b := 4) (dkn dmcX12_findAhead (by decide +kernel)) rfl
theorem dX12_findAhead_7 : decode cX12_findAhead 7 = .ok (.return_, 1) := dk_177 (dkn dmcX12_findAhead (by decide +kernel))
theorem dX12_findAhead_8 : decode cX12_findAhead 8 = .ok (.aload_n 0, 1) := dk_42 (dkn dmcX12_findAhead (by decide +kernel))
theorem dX12_findAhead_9 : decode cX12_findAhead 9 = .ok (.iconst 1, 1) := dk_4 (dkn dmcX12_findAhead (by decide +kernel))
theorem dX12_findAhead_10 : decode cX12_findAhead 10 = .ok (.putfield 288, 3) := dk_181 (a := 1) (b := 32) (dkn dmcX12_findAhead (by decide +kernel)) rfl
theorem dX12_findAhead_13 : decode cX12_findAhead 13 = .ok (.iconst 1, 1) := dk_4 (dkn dmcX12_findAhead (by decide +kernel))
theorem dX12_findAhead_14 : decode cX12_findAhead 14 = .ok (.istore_n 1, 1) := dk_60 (dkn dmcX12_findAhead (by decide +kernel))
theorem dX12_findAhead_15 : decode cX12_findAhead 15 = .ok (.iload_n 1, 1) := dk_27 (dkn dmcX12_findAhead (by decide +kernel))
theorem dX12_findAhead_16 : decode cX12_findAhead 16 = .ok (.aload_n 0, 1) := dk_42 (dkn dmcX12_findAhead (by decide +kernel))
theorem dX12_findAhead_17 : decode cX12_findAhead 17 = .ok (.getfield 304, 3) := dk_180 (a := 1) (b := 48) (dkn dmcX12_findAhead (by decide +kernel)) rfl
theorem dX12_findAhead_20 : decode cX12_findAhead 20 = .ok (.if_icmp .gt 146, 3) := dk_163 (a := 0) (b := 146) (dkn dmcX12_findAhead (by decide +kernel)) rfl
theorem dX12_findAhead_23 : decode cX12_findAhead 23 = .ok (.iconst 1, 1) := dk_4 (dkn dmcX12_findAhead (by decide +kernel))
theorem dX12_findAhead_24 : decode cX12_findAhead 24 = .ok (.istore_n 2, 1) := dk_61 (dkn dmcX12_findAhead (by decide +kernel))
theorem dX12_findAhead_25 : decode cX12_findAhead 25 = .ok (.iload_n 2, 1) := dk_28 (dkn dmcX12_findAhead (by decide +kernel))
theorem dX12_findAhead_26 : decode cX12_findAhead 26 = .ok (.iload_n 1, 1) := dk_27 (dkn dmcX12_findAhead (by decide +kernel))
theorem dX12_findAhead_27 : decode cX12_findAhead 27 = .ok (.if_icmp .ge 22, 3) := dk_162 (a := 0) (b := 22) (dkn dmcX12_findAhead (by decide +kernel)) rfl
theorem dX12_findAhead_30 : decode cX12_findAhead 30 = .ok (.aload_n 0, 1) := dk_42 (dkn dmcX12_findAhead (by decide +kernel))
theorem dX12_findAhead_31 : decode cX12_findAhead 31 = .ok (.getfield 127, 3) := dk_180 (a := 0) (b := 127) (dkn dmcX12_findAhead (by decide +kernel)) rfl
theorem dX12_findAhead_34 : decode cX12_findAhead 34 = .ok (.sipush 301, 3) := dk_17 (a := 1) (b := 45) (dkn dmcX12_findAhead (by decide +kernel)) rfl
theorem dX12_findAhead_37 : decode cX12_findAhead 37 = .ok (.iload_n 2, 1) := dk_28 (dkn dmcX12_findAhead (by decide +kernel))
theorem dX12_findAhead_38 : decode cX12_findAhead 38 = .ok (.imul, 1) := dk_104 (dkn dmcX12_findAhead (by decide +kernel))
theorem dX12_findAhead_39 : decode cX12_findAhead 39 = .ok (.iload_n 1, 1) := dk_27 (dkn dmcX12_findAhead (by decide +kernel))
theorem dX12_findAhead_40 : decode cX12_findAhead 40 = .ok (.iadd, 1) := dk_96 (dkn dmcX12_findAhead (by decide +kernel))
theorem dX12_findAhead_41 : decode cX12_findAhead 41 = .ok (.iconst 0, 1) := dk_3 (dkn dmcX12_findAhead (by decide +kernel))
theorem dX12_findAhead_42 : decode cX12_findAhead 42 = .ok (.bastore, 1) := dk_84 (dkn dmcX12_findAhead (by decide +kernel))
theorem dX12_findAhead_43 : decode cX12_findAhead 43 = .ok (.iinc 2 1, 3) := dk_132 (b := 1) (dkn dmcX12_findAhead (by decide +kernel)) rfl
theorem dX12_findAhead_46 : decode cX12_findAhead 46 = .ok (.goto (-21), 3) := dk_167 (a := 255) (b := 235) (dkn dmcX12_findAhead (by decide +kernel)) rfl
theorem dX12_findAhead_49 : decode cX12_findAhead 49 = .ok (.iload_n 1, 1) := dk_27 (dkn dmcX12_findAhead (by decide +kernel))
theorem dX12_findAhead_50 : decode cX12_findAhead 50 = .ok (.iconst 1, 1) := dk_4 (dkn dmcX12_findAhead (by decide +kernel))
theorem dX12_findAhead_51 : decode cX12_findAhead 51 = .ok (.isub, 1) := dk_100 (dkn dmcX12_findAhead (by decide +kernel))
theorem dX12_findAhead_52 : decode cX12_findAhead 52 = .ok (.istore_n 2, 1) := dk_61 (dkn dmcX12_findAhead (by decide +kernel))
theorem dX12_findAhead_53 : decode cX12_findAhead 53 = .ok (.iload_n 2, 1) := dk_28 (dkn dmcX12_findAhead (by decide +kernel))
theorem dX12_findAhead_54 : decode cX12_findAhead 54 = .ok (.ifCond .le 106, 3) := dk_158 (a := 0) (b := 106) (dkn dmcX12_findAhead (by decide +kernel)) rfl
theorem dX12_findAhead_57 : decode cX12_findAhead 57 = .ok (.aload_n 0, 1) := dk_42 (dkn dmcX12_findAhead (by decide +kernel))
theorem dX12_findAhead_58 : decode cX12_findAhead 58 = .ok (.getfield 127, 3) := dk_180 (a := 0) (b := 127) (dkn dmcX12_findAhead (by decide +kernel)) rfl
theorem dX12_findAhead_61 : decode cX12_findAhead 61 = .ok (.sipush 301, 3) := dk_17 (a := 1) (b := 45) (dkn dmcX12_findAhead (by decide +kernel)) rfl
theorem dX12_findAhead_64 : decode cX12_findAhead 64 = .ok (.iload_n 2, 1) := dk_28 (dkn dmcX12_findAhead (by decide +kernel))
theorem dX12_findAhead_65 : decode cX12_findAhead 65 = .ok (.imul, 1) := dk_104 (dkn dmcX12_findAhead (by decide +kernel))
theorem dX12_findAhead_66 : decode cX12_findAhead 66 = .ok (.iload_n 1, 1) := dk_27 (dkn dmcX12_findAhead (by decide +kernel))
theorem dX12_findAhead_67 : decode cX12_findAhead 67 = .ok (.iadd, 1) := dk_96 (dkn dmcX12_findAhead (by decide +kernel))
theorem dX12_findAhead_68 : decode cX12_findAhead 68 = .ok (.baload, 1) := dk_51 (dkn dmcX12_findAhead (by decide +kernel))
theorem dX12_findAhead_69 : decode cX12_findAhead 69 = .ok (.ifCond .ne 85, 3) := dk_154 (a := 0) (b := 85) (dkn dmcX12_findAhead (by decide +kernel)) rfl
theorem dX12_findAhead_72 : decode cX12_findAhead 72 = .ok (.aload_n 0, 1) := dk_42 (dkn dmcX12_findAhead (by decide +kernel))
theorem dX12_findAhead_73 : decode cX12_findAhead 73 = .ok (.iload_n 2, 1) := dk_28 (dkn dmcX12_findAhead (by decide +kernel))
theorem dX12_findAhead_74 : decode cX12_findAhead 74 = .ok (.iload_n 1, 1) := dk_27 (dkn dmcX12_findAhead (by decide +kernel))
theorem dX12_findAhead_75 : decode cX12_findAhead 75 = .ok (.invokevirtual 331, 3) := dk_182 (a := 1) (b := 75) (dkn dmcX12_findAhead (by decide +kernel)) rfl
theorem dX12_findAhead_78 : decode cX12_findAhead 78 = .ok (.ifCond .eq 76, 3) := dk_153 (a := 0) (b := 76) (dkn dmcX12_findAhead (by decide +kernel)) rfl
theorem dX12_findAhead_81 : decode cX12_findAhead 81 = .ok (.aload_n 0, 1) := dk_42 (dkn dmcX12_findAhead (by decide +kernel))
theorem dX12_findAhead_82 : decode cX12_findAhead 82 = .ok (.getfield 127, 3) := dk_180 (a := 0) (b := 127) (dkn dmcX12_findAhead (by decide +kernel)) rfl
theorem dX12_findAhead_85 : decode cX12_findAhead 85 = .ok (.sipush 301, 3) := dk_17 (a := 1) (b := 45) (dkn dmcX12_findAhead (by decide +kernel)) rfl
theorem dX12_findAhead_88 : decode cX12_findAhead 88 = .ok (.iload_n 2, 1) := dk_28 (dkn dmcX12_findAhead (by decide +kernel))
theorem dX12_findAhead_89 : decode cX12_findAhead 89 = .ok (.imul, 1) := dk_104 (dkn dmcX12_findAhead (by decide +kernel))
theorem dX12_findAhead_90 : decode cX12_findAhead 90 = .ok (.iload_n 1, 1) := dk_27 (dkn dmcX12_findAhead (by decide +kernel))
theorem dX12_findAhead_91 : decode cX12_findAhead 91 = .ok (.iadd, 1) := dk_96 (dkn dmcX12_findAhead (by decide +kernel))
theorem dX12_findAhead_92 : decode cX12_findAhead 92 = .ok (.iconst 1, 1) := dk_4 (dkn dmcX12_findAhead (by decide +kernel))
theorem dX12_findAhead_93 : decode cX12_findAhead 93 = .ok (.bastore, 1) := dk_84 (dkn dmcX12_findAhead (by decide +kernel))
theorem dX12_findAhead_94 : decode cX12_findAhead 94 = .ok (.iconst 1, 1) := dk_4 (dkn dmcX12_findAhead (by decide +kernel))
theorem dX12_findAhead_95 : decode cX12_findAhead 95 = .ok (.istore_n 3, 1) := dk_62 (dkn dmcX12_findAhead (by decide +kernel))
theorem dX12_findAhead_96 : decode cX12_findAhead 96 = .ok (.iload_n 3, 1) := dk_29 (dkn dmcX12_findAhead (by decide +kernel))
theorem dX12_findAhead_97 : decode cX12_findAhead 97 = .ok (.iload_n 2, 1) := dk_28 (dkn dmcX12_findAhead (by decide +kernel))
theorem dX12_findAhead_98 : decode cX12_findAhead 98 = .ok (.if_icmp .ge 56, 3) := dk_162 (a := 0) (b := 56) (dkn dmcX12_findAhead (by decide +kernel)) rfl
theorem dX12_findAhead_101 : decode cX12_findAhead 101 = .ok (.aload_n 0, 1) := dk_42 (dkn dmcX12_findAhead (by decide +kernel))
theorem dX12_findAhead_102 : decode cX12_findAhead 102 = .ok (.getfield 127, 3) := dk_180 (a := 0) (b := 127) (dkn dmcX12_findAhead (by decide +kernel)) rfl
theorem dX12_findAhead_105 : decode cX12_findAhead 105 = .ok (.sipush 301, 3) := dk_17 (a := 1) (b := 45) (dkn dmcX12_findAhead (by decide +kernel)) rfl
theorem dX12_findAhead_108 : decode cX12_findAhead 108 = .ok (.iload_n 3, 1) := dk_29 (dkn dmcX12_findAhead (by decide +kernel))
theorem dX12_findAhead_109 : decode cX12_findAhead 109 = .ok (.imul, 1) := dk_104 (dkn dmcX12_findAhead (by decide +kernel))
theorem dX12_findAhead_110 : decode cX12_findAhead 110 = .ok (.iload_n 1, 1) := dk_27 (dkn dmcX12_findAhead (by decide +kernel))
theorem dX12_findAhead_111 : decode cX12_findAhead 111 = .ok (.iadd, 1) := dk_96 (dkn dmcX12_findAhead (by decide +kernel))
theorem dX12_findAhead_112 : decode cX12_findAhead 112 = .ok (.aload_n 0, 1) := dk_42 (dkn dmcX12_findAhead (by decide +kernel))
theorem dX12_findAhead_113 : decode cX12_findAhead 113 = .ok (.getfield 127, 3) := dk_180 (a := 0) (b := 127) (dkn dmcX12_findAhead (by decide +kernel)) rfl
theorem dX12_findAhead_116 : decode cX12_findAhead 116 = .ok (.sipush 301, 3) := dk_17 (a := 1) (b := 45) (dkn dmcX12_findAhead (by decide +kernel)) rfl
theorem dX12_findAhead_119 : decode cX12_findAhead 119 = .ok (.iload_n 3, 1) := dk_29 (dkn dmcX12_findAhead (by decide +kernel))
theorem dX12_findAhead_120 : decode cX12_findAhead 120 = .ok (.imul, 1) := dk_104 (dkn dmcX12_findAhead (by decide +kernel))
theorem dX12_findAhead_121 : decode cX12_findAhead 121 = .ok (.iload_n 1, 1) := dk_27 (dkn dmcX12_findAhead (by decide +kernel))
theorem dX12_findAhead_122 : decode cX12_findAhead 122 = .ok (.iadd, 1) := dk_96 (dkn dmcX12_findAhead (by decide +kernel))
theorem dX12_findAhead_123 : decode cX12_findAhead 123 = .ok (.baload, 1) := dk_51 (dkn dmcX12_findAhead (by decide +kernel))
theorem dX12_findAhead_124 : decode cX12_findAhead 124 = .ok (.ifCond .ne 18, 3) := dk_154 (a := 0) (b := 18) (dkn dmcX12_findAhead (by decide +kernel)) rfl
theorem dX12_findAhead_127 : decode cX12_findAhead 127 = .ok (.aload_n 0, 1) := dk_42 (dkn dmcX12_findAhead (by decide +kernel))
theorem dX12_findAhead_128 : decode cX12_findAhead 128 = .ok (.getfield 127, 3) := dk_180 (a := 0) (b := 127) (dkn dmcX12_findAhead (by decide +kernel)) rfl
theorem dX12_findAhead_131 : decode cX12_findAhead 131 = .ok (.sipush 301, 3) := dk_17 (a := 1) (b := 45) (dkn dmcX12_findAhead (by decide +kernel)) rfl
theorem dX12_findAhead_134 : decode cX12_findAhead 134 = .ok (.iload_n 3, 1) := dk_29 (dkn dmcX12_findAhead (by decide +kernel))
theorem dX12_findAhead_135 : decode cX12_findAhead 135 = .ok (.imul, 1) := dk_104 (dkn dmcX12_findAhead (by decide +kernel))
theorem dX12_findAhead_136 : decode cX12_findAhead 136 = .ok (.iload_n 2, 1) := dk_28 (dkn dmcX12_findAhead (by decide +kernel))
theorem dX12_findAhead_137 : decode cX12_findAhead 137 = .ok (.iadd, 1) := dk_96 (dkn dmcX12_findAhead (by decide +kernel))
theorem dX12_findAhead_138 : decode cX12_findAhead 138 = .ok (.baload, 1) := dk_51 (dkn dmcX12_findAhead (by decide +kernel))
theorem dX12_findAhead_139 : decode cX12_findAhead 139 = .ok (.ifCond .eq 7, 3) := dk_153 (a := 0) (b := 7) (dkn dmcX12_findAhead (by decide +kernel)) rfl
theorem dX12_findAhead_142 : decode cX12_findAhead 142 = .ok (.iconst 1, 1) := dk_4 (dkn dmcX12_findAhead (by decide +kernel))
theorem dX12_findAhead_143 : decode cX12_findAhead 143 = .ok (.goto 4, 3) := dk_167 (a := 0) (b := 4) (dkn dmcX12_findAhead (by decide +kernel)) rfl
theorem dX12_findAhead_146 : decode cX12_findAhead 146 = .ok (.iconst 0, 1) := dk_3 (dkn dmcX12_findAhead (by decide +kernel))
theorem dX12_findAhead_147 : decode cX12_findAhead 147 = .ok (.bastore, 1) := dk_84 (dkn dmcX12_findAhead (by decide +kernel))
theorem dX12_findAhead_148 : decode cX12_findAhead 148 = .ok (.iinc 3 1, 3) := dk_132 (b := 1) (dkn dmcX12_findAhead (by decide +kernel)) rfl
theorem dX12_findAhead_151 : decode cX12_findAhead 151 = .ok (.goto (-55), 3) := dk_167 (a := 255) (b := 201) (dkn dmcX12_findAhead (by decide +kernel)) rfl
theorem dX12_findAhead_154 : decode cX12_findAhead 154 = .ok (.iinc 2 (-1), 3) := dk_132 (b := 255) (dkn dmcX12_findAhead (by decide +kernel)) rfl
theorem dX12_findAhead_157 : decode cX12_findAhead 157 = .ok (.goto (-104), 3) := dk_167 (a := 255) (b := 152) (dkn dmcX12_findAhead (by decide +kernel)) rfl
theorem dX12_findAhead_160 : decode cX12_findAhead 160 = .ok (.iinc 1 1, 3) := dk_132 (b := 1) (dkn dmcX12_findAhead (by decide +kernel)) rfl
theorem dX12_findAhead_163 : decode cX12_findAhead 163 = .ok (.goto (-148), 3) := dk_167 (a := 255) (b := 108) (dkn dmcX12_findAhead (by decide +kernel)) rfl
theorem dX12_findAhead_166 : decode cX12_findAhead 166 = .ok (.return_, 1) := dk_177 (dkn dmcX12_findAhead (by decide +kernel))
def dncX12_ahead : Nat := 0xac030400a70407009933601c681b2d01117f00b42a4e01b62aac0205009aa900b88564041c0a851b100099a900b8853001b42a0a851cacfe1006009a2601b42aa400b5032a
theorem dmcX12_ahead : dkc dncX12_ahead 69 cX12_ahead.data.toList 0 = true := by decide +kernel
theorem dX12_ahead_0 : decode cX12_ahead 0 = .ok (.aload_n 0, 1) := dk_42 (dkn dmcX12_ahead (by decide +kernel))
theorem dX12_ahead_1 : decode cX12_ahead 1 = .ok (.iconst 0, 1) := dk_3 (dkn dmcX12_ahead (by decide +kernel))
theorem dX12_ahead_2 : decode cX12_ahead 2 = .ok (.putfield 164, 3) := dk_181 (a := 0) (b := 164) (dkn dmcX12_ahead (by decide +kernel)) rfl
theorem dX12_ahead_5 : decode cX12_ahead 5 = .ok (.aload_n 0, 1) := dk_42 (dkn dmcX12_ahead (by decide +kernel))
theorem dX12_ahead_6 : decode cX12_ahead 6 = .ok (.getfield 294, 3) := dk_180 (a := 1) (b := 38) (dkn dmcX12_ahead (by decide +kernel)) rfl
theorem dX12_ahead_9 : decode cX12_ahead 9 = .ok (.ifCond .ne 6, 3) := dk_154 (a := 0) (b := 6) (dkn dmcX12_ahead (by decide +kernel)) rfl
theorem dX12_ahead_12 : decode cX12_ahead 12 = .ok (.bipush (-2), 2) := dk_16 (a := 254) (dkn dmcX12_ahead (by decide +kernel)) rfl
theorem dX12_ahead_14 : decode cX12_ahead 14 = .ok (.ireturn, 1) := dk_172 (dkn dmcX12_ahead (by decide +kernel))
theorem dX12_ahead_15 : decode cX12_ahead 15 = .ok (.iload_n 2, 1) := dk_28 (dkn dmcX12_ahead (by decide +kernel))
theorem dX12_ahead_16 : decode cX12_ahead 16 = .ok (.i2l, 1) := dk_133 (dkn dmcX12_ahead (by decide +kernel))
theorem dX12_ahead_17 : decode cX12_ahead 17 = .ok (.lconst 1, 1) := dk_10 (dkn dmcX12_ahead (by decide +kernel))
theorem dX12_ahead_18 : decode cX12_ahead 18 = .ok (.aload_n 0, 1) := dk_42 (dkn dmcX12_ahead (by decide +kernel))
theorem dX12_ahead_19 : decode cX12_ahead 19 = .ok (.getfield 304, 3) := dk_180 (a := 1) (b := 48) (dkn dmcX12_ahead (by decide +kernel)) rfl
theorem dX12_ahead_22 : decode cX12_ahead 22 = .ok (.i2l, 1) := dk_133 (dkn dmcX12_ahead (by decide +kernel))
theorem dX12_ahead_23 : decode cX12_ahead 23 = .ok (.invokestatic 169, 3) := dk_184 (a := 0) (b := 169) (dkn dmcX12_ahead (by decide +kernel)) rfl
theorem dX12_ahead_26 : decode cX12_ahead 26 = .ok (.ifCond .eq 16, 3) := dk_153 (a := 0) (b := 16) (dkn dmcX12_ahead (by decide +kernel)) rfl
end MG_07_mdec1
section MG_07_mdec2
theorem dX12_ahead_29 : decode cX12_ahead 29 = .ok (.iload_n 1, 1) := dk_27 (dkn dmcX12_ahead (by decide +kernel))
theorem dX12_ahead_30 : decode cX12_ahead 30 = .ok (.i2l, 1) := dk_133 (dkn dmcX12_ahead (by decide +kernel))
theorem dX12_ahead_31 : decode cX12_ahead 31 = .ok (.lconst 1, 1) := dk_10 (dkn dmcX12_ahead (by decide +kernel))
theorem dX12_ahead_32 : decode cX12_ahead 32 = .ok (.iload_n 2, 1) := dk_28 (dkn dmcX12_ahead (by decide +kernel))
theorem dX12_ahead_33 : decode cX12_ahead 33 = .ok (.iconst 1, 1) := dk_4 (dkn dmcX12_ahead (by decide +kernel))
theorem dX12_ahead_34 : decode cX12_ahead 34 = .ok (.isub, 1) := dk_100 (dkn dmcX12_ahead (by decide +kernel))
theorem dX12_ahead_35 : decode cX12_ahead 35 = .ok (.i2l, 1) := dk_133 (dkn dmcX12_ahead (by decide +kernel))
theorem dX12_ahead_36 : decode cX12_ahead 36 = .ok (.invokestatic 169, 3) := dk_184 (a := 0) (b := 169) (dkn dmcX12_ahead (by decide +kernel)) rfl
theorem dX12_ahead_39 : decode cX12_ahead 39 = .ok (.ifCond .ne 5, 3) := dk_154 (a := 0) (b := 5) (dkn dmcX12_ahead (by decide +kernel)) rfl
theorem dX12_ahead_42 : decode cX12_ahead 42 = .ok (.iconst (-1), 1) := dk_2 (dkn dmcX12_ahead (by decide +kernel))
theorem dX12_ahead_43 : decode cX12_ahead 43 = .ok (.ireturn, 1) := dk_172 (dkn dmcX12_ahead (by decide +kernel))
theorem dX12_ahead_44 : decode cX12_ahead 44 = .ok (.aload_n 0, 1) := dk_42 (dkn dmcX12_ahead (by decide +kernel))
theorem dX12_ahead_45 : decode cX12_ahead 45 = .ok (.invokevirtual 334, 3) := dk_182 (a := 1) (b := 78) (dkn dmcX12_ahead (by decide +kernel)) rfl
theorem dX12_ahead_48 : decode cX12_ahead 48 = .ok (.aload_n 0, 1) := dk_42 (dkn dmcX12_ahead (by decide +kernel))
theorem dX12_ahead_49 : decode cX12_ahead 49 = .ok (.getfield 127, 3) := dk_180 (a := 0) (b := 127) (dkn dmcX12_ahead (by decide +kernel)) rfl
theorem dX12_ahead_52 : decode cX12_ahead 52 = .ok (.sipush 301, 3) := dk_17 (a := 1) (b := 45) (dkn dmcX12_ahead (by decide +kernel)) rfl
theorem dX12_ahead_55 : decode cX12_ahead 55 = .ok (.iload_n 1, 1) := dk_27 (dkn dmcX12_ahead (by decide +kernel))
theorem dX12_ahead_56 : decode cX12_ahead 56 = .ok (.imul, 1) := dk_104 (dkn dmcX12_ahead (by decide +kernel))
theorem dX12_ahead_57 : decode cX12_ahead 57 = .ok (.iload_n 2, 1) := dk_28 (dkn dmcX12_ahead (by decide +kernel))
theorem dX12_ahead_58 : decode cX12_ahead 58 = .ok (.iadd, 1) := dk_96 (dkn dmcX12_ahead (by decide +kernel))
theorem dX12_ahead_59 : decode cX12_ahead 59 = .ok (.baload, 1) := dk_51 (dkn dmcX12_ahead (by decide +kernel))
theorem dX12_ahead_60 : decode cX12_ahead 60 = .ok (.ifCond .eq 7, 3) := dk_153 (a := 0) (b := 7) (dkn dmcX12_ahead (by decide +kernel)) rfl
theorem dX12_ahead_63 : decode cX12_ahead 63 = .ok (.iconst 1, 1) := dk_4 (dkn dmcX12_ahead (by decide +kernel))
theorem dX12_ahead_64 : decode cX12_ahead 64 = .ok (.goto 4, 3) := dk_167 (a := 0) (b := 4) (dkn dmcX12_ahead (by decide +kernel)) rfl
theorem dX12_ahead_67 : decode cX12_ahead 67 = .ok (.iconst 0, 1) := dk_3 (dkn dmcX12_ahead (by decide +kernel))
theorem dX12_ahead_68 : decode cX12_ahead 68 = .ok (.ireturn, 1) := dk_172 (dkn dmcX12_ahead (by decide +kernel))
def dncX12_racing : Nat := 0xac020400a71d0700a01d2e1c6900b42a0d009f1d2e1c6c00b42a1b0099041520009b1d0436030400a70407009b2e1c6c00b42a0c009c2e1b6c00b42a3e2e1b6900b42a0900a72e1b6c00b42a0c009b2e1b6c00b42aac0205009933601c681b2d01117f00b42a12009f2e1c6000b42a2e1b6000b42a
theorem dmcX12_racing : dkc dncX12_racing 117 cX12_racing.data.toList 0 = true := by decide +kernel
theorem dX12_racing_0 : decode cX12_racing 0 = .ok (.aload_n 0, 1) := dk_42 (dkn dmcX12_racing (by decide +kernel))
theorem dX12_racing_1 : decode cX12_racing 1 = .ok (.getfield 96, 3) := dk_180 (a := 0) (b := 96) (dkn dmcX12_racing (by decide +kernel)) rfl
theorem dX12_racing_4 : decode cX12_racing 4 = .ok (.iload_n 1, 1) := dk_27 (dkn dmcX12_racing (by decide +kernel))
theorem dX12_racing_5 : decode cX12_racing 5 = .ok (.iaload, 1) := dk_46 (dkn dmcX12_racing (by decide +kernel))
theorem dX12_racing_6 : decode cX12_racing 6 = .ok (.aload_n 0, 1) := dk_42 (dkn dmcX12_racing (by decide +kernel))
theorem dX12_racing_7 : decode cX12_racing 7 = .ok (.getfield 96, 3) := dk_180 (a := 0) (b := 96) (dkn dmcX12_racing (by decide +kernel)) rfl
theorem dX12_racing_10 : decode cX12_racing 10 = .ok (.iload_n 2, 1) := dk_28 (dkn dmcX12_racing (by decide +kernel))
theorem dX12_racing_11 : decode cX12_racing 11 = .ok (.iaload, 1) := dk_46 (dkn dmcX12_racing (by decide +kernel))
theorem dX12_racing_12 : decode cX12_racing 12 = .ok (.if_icmp .eq 18, 3) := dk_159 (a := 0) (b := 18) (dkn dmcX12_racing (by decide +kernel)) rfl
theorem dX12_racing_15 : decode cX12_racing 15 = .ok (.aload_n 0, 1) := dk_42 (dkn dmcX12_racing (by decide +kernel))
theorem dX12_racing_16 : decode cX12_racing 16 = .ok (.getfield 127, 3) := dk_180 (a := 0) (b := 127) (dkn dmcX12_racing (by decide +kernel)) rfl
theorem dX12_racing_19 : decode cX12_racing 19 = .ok (.sipush 301, 3) := dk_17 (a := 1) (b := 45) (dkn dmcX12_racing (by decide +kernel)) rfl
theorem dX12_racing_22 : decode cX12_racing 22 = .ok (.iload_n 1, 1) := dk_27 (dkn dmcX12_racing (by decide +kernel))
theorem dX12_racing_23 : decode cX12_racing 23 = .ok (.imul, 1) := dk_104 (dkn dmcX12_racing (by decide +kernel))
theorem dX12_racing_24 : decode cX12_racing 24 = .ok (.iload_n 2, 1) := dk_28 (dkn dmcX12_racing (by decide +kernel))
theorem dX12_racing_25 : decode cX12_racing 25 = .ok (.iadd, 1) := dk_96 (dkn dmcX12_racing (by decide +kernel))
theorem dX12_racing_26 : decode cX12_racing 26 = .ok (.baload, 1) := dk_51 (dkn dmcX12_racing (by decide +kernel))
theorem dX12_racing_27 : decode cX12_racing 27 = .ok (.ifCond .eq 5, 3) := dk_153 (a := 0) (b := 5) (dkn dmcX12_racing (by decide +kernel)) rfl
theorem dX12_racing_30 : decode cX12_racing 30 = .ok (.iconst (-1), 1) := dk_2 (dkn dmcX12_racing (by decide +kernel))
theorem dX12_racing_31 : decode cX12_racing 31 = .ok (.ireturn, 1) := dk_172 (dkn dmcX12_racing (by decide +kernel))
theorem dX12_racing_32 : decode cX12_racing 32 = .ok (.aload_n 0, 1) := dk_42 (dkn dmcX12_racing (by decide +kernel))
theorem dX12_racing_33 : decode cX12_racing 33 = .ok (.getfield 108, 3) := dk_180 (a := 0) (b := 108) (dkn dmcX12_racing (by decide +kernel)) rfl
theorem dX12_racing_36 : decode cX12_racing 36 = .ok (.iload_n 1, 1) := dk_27 (dkn dmcX12_racing (by decide +kernel))
theorem dX12_racing_37 : decode cX12_racing 37 = .ok (.iaload, 1) := dk_46 (dkn dmcX12_racing (by decide +kernel))
theorem dX12_racing_38 : decode cX12_racing 38 = .ok (.ifCond .lt 12, 3) := dk_155 (a := 0) (b := 12) (dkn dmcX12_racing (by decide +kernel)) rfl
theorem dX12_racing_41 : decode cX12_racing 41 = .ok (.aload_n 0, 1) := dk_42 (dkn dmcX12_racing (by decide +kernel))
theorem dX12_racing_42 : decode cX12_racing 42 = .ok (.getfield 108, 3) := dk_180 (a := 0) (b := 108) (dkn dmcX12_racing (by decide +kernel)) rfl
theorem dX12_racing_45 : decode cX12_racing 45 = .ok (.iload_n 1, 1) := dk_27 (dkn dmcX12_racing (by decide +kernel))
theorem dX12_racing_46 : decode cX12_racing 46 = .ok (.iaload, 1) := dk_46 (dkn dmcX12_racing (by decide +kernel))
theorem dX12_racing_47 : decode cX12_racing 47 = .ok (.goto 9, 3) := dk_167 (a := 0) (b := 9) (dkn dmcX12_racing (by decide +kernel)) rfl
theorem dX12_racing_50 : decode cX12_racing 50 = .ok (.aload_n 0, 1) := dk_42 (dkn dmcX12_racing (by decide +kernel))
theorem dX12_racing_51 : decode cX12_racing 51 = .ok (.getfield 105, 3) := dk_180 (a := 0) (b := 105) (dkn dmcX12_racing (by decide +kernel)) rfl
theorem dX12_racing_54 : decode cX12_racing 54 = .ok (.iload_n 1, 1) := dk_27 (dkn dmcX12_racing (by decide +kernel))
theorem dX12_racing_55 : decode cX12_racing 55 = .ok (.iaload, 1) := dk_46 (dkn dmcX12_racing (by decide +kernel))
theorem dX12_racing_56 : decode cX12_racing 56 = .ok (.istore_n 3, 1) := dk_62 (dkn dmcX12_racing (by decide +kernel))
theorem dX12_racing_57 : decode cX12_racing 57 = .ok (.aload_n 0, 1) := dk_42 (dkn dmcX12_racing (by decide +kernel))
theorem dX12_racing_58 : decode cX12_racing 58 = .ok (.getfield 108, 3) := dk_180 (a := 0) (b := 108) (dkn dmcX12_racing (by decide +kernel)) rfl
theorem dX12_racing_61 : decode cX12_racing 61 = .ok (.iload_n 1, 1) := dk_27 (dkn dmcX12_racing (by decide +kernel))
theorem dX12_racing_62 : decode cX12_racing 62 = .ok (.iaload, 1) := dk_46 (dkn dmcX12_racing (by decide +kernel))
theorem dX12_racing_63 : decode cX12_racing 63 = .ok (.ifCond .ge 12, 3) := dk_156 (a := 0) (b := 12) (dkn dmcX12_racing (by decide +kernel)) rfl
theorem dX12_racing_66 : decode cX12_racing 66 = .ok (.aload_n 0, 1) := dk_42 (dkn dmcX12_racing (by decide +kernel))
theorem dX12_racing_67 : decode cX12_racing 67 = .ok (.getfield 108, 3) := dk_180 (a := 0) (b := 108) (dkn dmcX12_racing (by decide +kernel)) rfl
theorem dX12_racing_70 : decode cX12_racing 70 = .ok (.iload_n 2, 1) := dk_28 (dkn dmcX12_racing (by decide +kernel))
theorem dX12_racing_71 : decode cX12_racing 71 = .ok (.iaload, 1) := dk_46 (dkn dmcX12_racing (by decide +kernel))
theorem dX12_racing_72 : decode cX12_racing 72 = .ok (.ifCond .lt 7, 3) := dk_155 (a := 0) (b := 7) (dkn dmcX12_racing (by decide +kernel)) rfl
theorem dX12_racing_75 : decode cX12_racing 75 = .ok (.iconst 1, 1) := dk_4 (dkn dmcX12_racing (by decide +kernel))
theorem dX12_racing_76 : decode cX12_racing 76 = .ok (.goto 4, 3) := dk_167 (a := 0) (b := 4) (dkn dmcX12_racing (by decide +kernel)) rfl
theorem dX12_racing_79 : decode cX12_racing 79 = .ok (.iconst 0, 1) := dk_3 (dkn dmcX12_racing (by decide +kernel))
theorem dX12_racing_80 : decode cX12_racing 80 = .ok (.istore 4, 2) := dk_54 (dkn dmcX12_racing (by decide +kernel))
theorem dX12_racing_82 : decode cX12_racing 82 = .ok (.iload_n 3, 1) := dk_29 (dkn dmcX12_racing (by decide +kernel))
theorem dX12_racing_83 : decode cX12_racing 83 = .ok (.ifCond .lt 32, 3) := dk_155 (a := 0) (b := 32) (dkn dmcX12_racing (by decide +kernel)) rfl
theorem dX12_racing_86 : decode cX12_racing 86 = .ok (.iload 4, 2) := dk_21 (dkn dmcX12_racing (by decide +kernel))
theorem dX12_racing_88 : decode cX12_racing 88 = .ok (.ifCond .eq 27, 3) := dk_153 (a := 0) (b := 27) (dkn dmcX12_racing (by decide +kernel)) rfl
theorem dX12_racing_91 : decode cX12_racing 91 = .ok (.aload_n 0, 1) := dk_42 (dkn dmcX12_racing (by decide +kernel))
theorem dX12_racing_92 : decode cX12_racing 92 = .ok (.getfield 108, 3) := dk_180 (a := 0) (b := 108) (dkn dmcX12_racing (by decide +kernel)) rfl
theorem dX12_racing_95 : decode cX12_racing 95 = .ok (.iload_n 2, 1) := dk_28 (dkn dmcX12_racing (by decide +kernel))
theorem dX12_racing_96 : decode cX12_racing 96 = .ok (.iaload, 1) := dk_46 (dkn dmcX12_racing (by decide +kernel))
theorem dX12_racing_97 : decode cX12_racing 97 = .ok (.iload_n 3, 1) := dk_29 (dkn dmcX12_racing (by decide +kernel))
theorem dX12_racing_98 : decode cX12_racing 98 = .ok (.if_icmp .eq 13, 3) := dk_159 (a := 0) (b := 13) (dkn dmcX12_racing (by decide +kernel)) rfl
theorem dX12_racing_101 : decode cX12_racing 101 = .ok (.aload_n 0, 1) := dk_42 (dkn dmcX12_racing (by decide +kernel))
theorem dX12_racing_102 : decode cX12_racing 102 = .ok (.getfield 105, 3) := dk_180 (a := 0) (b := 105) (dkn dmcX12_racing (by decide +kernel)) rfl
theorem dX12_racing_105 : decode cX12_racing 105 = .ok (.iload_n 2, 1) := dk_28 (dkn dmcX12_racing (by decide +kernel))
theorem dX12_racing_106 : decode cX12_racing 106 = .ok (.iaload, 1) := dk_46 (dkn dmcX12_racing (by decide +kernel))
theorem dX12_racing_107 : decode cX12_racing 107 = .ok (.iload_n 3, 1) := dk_29 (dkn dmcX12_racing (by decide +kernel))
theorem dX12_racing_108 : decode cX12_racing 108 = .ok (.if_icmp .ne 7, 3) := dk_160 (a := 0) (b := 7) (dkn dmcX12_racing (by decide +kernel)) rfl
theorem dX12_racing_111 : decode cX12_racing 111 = .ok (.iload_n 3, 1) := dk_29 (dkn dmcX12_racing (by decide +kernel))
theorem dX12_racing_112 : decode cX12_racing 112 = .ok (.goto 4, 3) := dk_167 (a := 0) (b := 4) (dkn dmcX12_racing (by decide +kernel)) rfl
theorem dX12_racing_115 : decode cX12_racing 115 = .ok (.iconst (-1), 1) := dk_2 (dkn dmcX12_racing (by decide +kernel))
theorem dX12_racing_116 : decode cX12_racing 116 = .ok (.ireturn, 1) := dk_172 (dkn dmcX12_racing (by decide +kernel))
def dncX12_race : Nat := 0xac020400a71d07009a1ca8ffa7010484baffa70105843e60030400a70407009b06151dac06150500a704150800a0051c0f00a705150800a0041c1a009e1c1e00a01b1d23009b061506365101b6041505152a4500a2041505150536045500a33001b42a04150436053e034e01b62aac0205009aa900b8a7001409851cacfe1006009a2601b42aa400b5032a
theorem dmcX12_race : dkc dncX12_race 139 cX12_race.data.toList 0 = true := by decide +kernel
theorem dX12_race_0 : decode cX12_race 0 = .ok (.aload_n 0, 1) := dk_42 (dkn dmcX12_race (by decide +kernel))
theorem dX12_race_1 : decode cX12_race 1 = .ok (.iconst 0, 1) := dk_3 (dkn dmcX12_race (by decide +kernel))
theorem dX12_race_2 : decode cX12_race 2 = .ok (.putfield 164, 3) := dk_181 (a := 0) (b := 164) (dkn dmcX12_race (by decide +kernel)) rfl
theorem dX12_race_5 : decode cX12_race 5 = .ok (.aload_n 0, 1) := dk_42 (dkn dmcX12_race (by decide +kernel))
theorem dX12_race_6 : decode cX12_race 6 = .ok (.getfield 294, 3) := dk_180 (a := 1) (b := 38) (dkn dmcX12_race (by decide +kernel)) rfl
theorem dX12_race_9 : decode cX12_race 9 = .ok (.ifCond .ne 6, 3) := dk_154 (a := 0) (b := 6) (dkn dmcX12_race (by decide +kernel)) rfl
theorem dX12_race_12 : decode cX12_race 12 = .ok (.bipush (-2), 2) := dk_16 (a := 254) (dkn dmcX12_race (by decide +kernel)) rfl
theorem dX12_race_14 : decode cX12_race 14 = .ok (.ireturn, 1) := dk_172 (dkn dmcX12_race (by decide +kernel))
theorem dX12_race_15 : decode cX12_race 15 = .ok (.iload_n 2, 1) := dk_28 (dkn dmcX12_race (by decide +kernel))
theorem dX12_race_16 : decode cX12_race 16 = .ok (.i2l, 1) := dk_133 (dkn dmcX12_race (by decide +kernel))
theorem dX12_race_17 : decode cX12_race 17 = .ok (.lconst 0, 1) := dk_9 (dkn dmcX12_race (by decide +kernel))
theorem dX12_race_18 : decode cX12_race 18 = .ok (.ldc2_w 167, 3) := dk_20 (a := 0) (b := 167) (dkn dmcX12_race (by decide +kernel)) rfl
theorem dX12_race_21 : decode cX12_race 21 = .ok (.invokestatic 169, 3) := dk_184 (a := 0) (b := 169) (dkn dmcX12_race (by decide +kernel)) rfl
theorem dX12_race_24 : decode cX12_race 24 = .ok (.ifCond .ne 5, 3) := dk_154 (a := 0) (b := 5) (dkn dmcX12_race (by decide +kernel)) rfl
theorem dX12_race_27 : decode cX12_race 27 = .ok (.iconst (-1), 1) := dk_2 (dkn dmcX12_race (by decide +kernel))
theorem dX12_race_28 : decode cX12_race 28 = .ok (.ireturn, 1) := dk_172 (dkn dmcX12_race (by decide +kernel))
theorem dX12_race_29 : decode cX12_race 29 = .ok (.aload_n 0, 1) := dk_42 (dkn dmcX12_race (by decide +kernel))
theorem dX12_race_30 : decode cX12_race 30 = .ok (.invokevirtual 334, 3) := dk_182 (a := 1) (b := 78) (dkn dmcX12_race (by decide +kernel)) rfl
theorem dX12_race_33 : decode cX12_race 33 = .ok (.iconst 0, 1) := dk_3 (dkn dmcX12_race (by decide +kernel))
theorem dX12_race_34 : decode cX12_race 34 = .ok (.istore_n 3, 1) := dk_62 (dkn dmcX12_race (by decide +kernel))
theorem dX12_race_35 : decode cX12_race 35 = .ok (.iconst 2, 1) := dk_5 (dkn dmcX12_race (by decide +kernel))
theorem dX12_race_36 : decode cX12_race 36 = .ok (.istore 4, 2) := dk_54 (dkn dmcX12_race (by decide +kernel))
theorem dX12_race_38 : decode cX12_race 38 = .ok (.iload 4, 2) := dk_21 (dkn dmcX12_race (by decide +kernel))
theorem dX12_race_40 : decode cX12_race 40 = .ok (.aload_n 0, 1) := dk_42 (dkn dmcX12_race (by decide +kernel))
theorem dX12_race_41 : decode cX12_race 41 = .ok (.getfield 304, 3) := dk_180 (a := 1) (b := 48) (dkn dmcX12_race (by decide +kernel)) rfl
theorem dX12_race_44 : decode cX12_race 44 = .ok (.if_icmp .gt 85, 3) := dk_163 (a := 0) (b := 85) (dkn dmcX12_race (by decide +kernel)) rfl
theorem dX12_race_47 : decode cX12_race 47 = .ok (.iconst 1, 1) := dk_4 (dkn dmcX12_race (by decide +kernel))
theorem dX12_race_48 : decode cX12_race 48 = .ok (.istore 5, 2) := dk_54 (dkn dmcX12_race (by decide +kernel))
theorem dX12_race_50 : decode cX12_race 50 = .ok (.iload 5, 2) := dk_21 (dkn dmcX12_race (by decide +kernel))
theorem dX12_race_52 : decode cX12_race 52 = .ok (.iload 4, 2) := dk_21 (dkn dmcX12_race (by decide +kernel))
theorem dX12_race_54 : decode cX12_race 54 = .ok (.if_icmp .ge 69, 3) := dk_162 (a := 0) (b := 69) (dkn dmcX12_race (by decide +kernel)) rfl
theorem dX12_race_57 : decode cX12_race 57 = .ok (.aload_n 0, 1) := dk_42 (dkn dmcX12_race (by decide +kernel))
theorem dX12_race_58 : decode cX12_race 58 = .ok (.iload 5, 2) := dk_21 (dkn dmcX12_race (by decide +kernel))
theorem dX12_race_60 : decode cX12_race 60 = .ok (.iload 4, 2) := dk_21 (dkn dmcX12_race (by decide +kernel))
theorem dX12_race_62 : decode cX12_race 62 = .ok (.invokevirtual 337, 3) := dk_182 (a := 1) (b := 81) (dkn dmcX12_race (by decide +kernel)) rfl
theorem dX12_race_65 : decode cX12_race 65 = .ok (.istore 6, 2) := dk_54 (dkn dmcX12_race (by decide +kernel))
theorem dX12_race_67 : decode cX12_race 67 = .ok (.iload 6, 2) := dk_21 (dkn dmcX12_race (by decide +kernel))
theorem dX12_race_69 : decode cX12_race 69 = .ok (.ifCond .lt 35, 3) := dk_155 (a := 0) (b := 35) (dkn dmcX12_race (by decide +kernel)) rfl
theorem dX12_race_72 : decode cX12_race 72 = .ok (.iload_n 3, 1) := dk_29 (dkn dmcX12_race (by decide +kernel))
theorem dX12_race_73 : decode cX12_race 73 = .ok (.iload_n 1, 1) := dk_27 (dkn dmcX12_race (by decide +kernel))
theorem dX12_race_74 : decode cX12_race 74 = .ok (.if_icmp .ne 30, 3) := dk_160 (a := 0) (b := 30) (dkn dmcX12_race (by decide +kernel)) rfl
theorem dX12_race_77 : decode cX12_race 77 = .ok (.iload_n 2, 1) := dk_28 (dkn dmcX12_race (by decide +kernel))
theorem dX12_race_78 : decode cX12_race 78 = .ok (.ifCond .le 26, 3) := dk_158 (a := 0) (b := 26) (dkn dmcX12_race (by decide +kernel)) rfl
theorem dX12_race_81 : decode cX12_race 81 = .ok (.iload_n 2, 1) := dk_28 (dkn dmcX12_race (by decide +kernel))
theorem dX12_race_82 : decode cX12_race 82 = .ok (.iconst 1, 1) := dk_4 (dkn dmcX12_race (by decide +kernel))
theorem dX12_race_83 : decode cX12_race 83 = .ok (.if_icmp .ne 8, 3) := dk_160 (a := 0) (b := 8) (dkn dmcX12_race (by decide +kernel)) rfl
theorem dX12_race_86 : decode cX12_race 86 = .ok (.iload 5, 2) := dk_21 (dkn dmcX12_race (by decide +kernel))
theorem dX12_race_88 : decode cX12_race 88 = .ok (.goto 15, 3) := dk_167 (a := 0) (b := 15) (dkn dmcX12_race (by decide +kernel)) rfl
theorem dX12_race_91 : decode cX12_race 91 = .ok (.iload_n 2, 1) := dk_28 (dkn dmcX12_race (by decide +kernel))
theorem dX12_race_92 : decode cX12_race 92 = .ok (.iconst 2, 1) := dk_5 (dkn dmcX12_race (by decide +kernel))
theorem dX12_race_93 : decode cX12_race 93 = .ok (.if_icmp .ne 8, 3) := dk_160 (a := 0) (b := 8) (dkn dmcX12_race (by decide +kernel)) rfl
theorem dX12_race_96 : decode cX12_race 96 = .ok (.iload 4, 2) := dk_21 (dkn dmcX12_race (by decide +kernel))
theorem dX12_race_98 : decode cX12_race 98 = .ok (.goto 5, 3) := dk_167 (a := 0) (b := 5) (dkn dmcX12_race (by decide +kernel)) rfl
theorem dX12_race_101 : decode cX12_race 101 = .ok (.iload 6, 2) := dk_21 (dkn dmcX12_race (by decide +kernel))
theorem dX12_race_103 : decode cX12_race 103 = .ok (.ireturn, 1) := dk_172 (dkn dmcX12_race (by decide +kernel))
theorem dX12_race_104 : decode cX12_race 104 = .ok (.iload_n 3, 1) := dk_29 (dkn dmcX12_race (by decide +kernel))
theorem dX12_race_105 : decode cX12_race 105 = .ok (.iload 6, 2) := dk_21 (dkn dmcX12_race (by decide +kernel))
theorem dX12_race_107 : decode cX12_race 107 = .ok (.ifCond .lt 7, 3) := dk_155 (a := 0) (b := 7) (dkn dmcX12_race (by decide +kernel)) rfl
theorem dX12_race_110 : decode cX12_race 110 = .ok (.iconst 1, 1) := dk_4 (dkn dmcX12_race (by decide +kernel))
theorem dX12_race_111 : decode cX12_race 111 = .ok (.goto 4, 3) := dk_167 (a := 0) (b := 4) (dkn dmcX12_race (by decide +kernel)) rfl
theorem dX12_race_114 : decode cX12_race 114 = .ok (.iconst 0, 1) := dk_3 (dkn dmcX12_race (by decide +kernel))
theorem dX12_race_115 : decode cX12_race 115 = .ok (.iadd, 1) := dk_96 (dkn dmcX12_race (by decide +kernel))
theorem dX12_race_116 : decode cX12_race 116 = .ok (.istore_n 3, 1) := dk_62 (dkn dmcX12_race (by decide +kernel))
theorem dX12_race_117 : decode cX12_race 117 = .ok (.iinc 5 1, 3) := dk_132 (b := 1) (dkn dmcX12_race (by decide +kernel)) rfl
theorem dX12_race_120 : decode cX12_race 120 = .ok (.goto (-70), 3) := dk_167 (a := 255) (b := 186) (dkn dmcX12_race (by decide +kernel)) rfl
theorem dX12_race_123 : decode cX12_race 123 = .ok (.iinc 4 1, 3) := dk_132 (b := 1) (dkn dmcX12_race (by decide +kernel)) rfl
theorem dX12_race_126 : decode cX12_race 126 = .ok (.goto (-88), 3) := dk_167 (a := 255) (b := 168) (dkn dmcX12_race (by decide +kernel)) rfl
theorem dX12_race_129 : decode cX12_race 129 = .ok (.iload_n 2, 1) := dk_28 (dkn dmcX12_race (by decide +kernel))
theorem dX12_race_130 : decode cX12_race 130 = .ok (.ifCond .ne 7, 3) := dk_154 (a := 0) (b := 7) (dkn dmcX12_race (by decide +kernel)) rfl
theorem dX12_race_133 : decode cX12_race 133 = .ok (.iload_n 3, 1) := dk_29 (dkn dmcX12_race (by decide +kernel))
theorem dX12_race_134 : decode cX12_race 134 = .ok (.goto 4, 3) := dk_167 (a := 0) (b := 4) (dkn dmcX12_race (by decide +kernel)) rfl
theorem dX12_race_137 : decode cX12_race 137 = .ok (.iconst (-1), 1) := dk_2 (dkn dmcX12_race (by decide +kernel))
theorem dX12_race_138 : decode cX12_race 138 = .ok (.ireturn, 1) := dk_172 (dkn dmcX12_race (by decide +kernel))
def dncX12_differ : Nat := 0xac1dd6ffa70104843e60030400a70407009f2e600415681c074a00b42a2e600415681b074a00b42a1d2a00a2070415043603b8ffa70104843e60030400a70407009f2e600415681c1c104700b42a2e600415681b1c104700b42a1e00a02e600415681c1c104400b42a2e600415681b1c104400b42a1d4700a21c1004150436033e03ac0205009aa900b8853001b42a09851c110099a900b8853001b42a09851bacfe1006009a2601b42aa400b5032a
theorem dmcX12_differ : dkc dncX12_differ 175 cX12_differ.data.toList 0 = true := by decide +kernel
theorem dX12_differ_0 : decode cX12_differ 0 = .ok (.aload_n 0, 1) := dk_42 (dkn dmcX12_differ (by decide +kernel))
theorem dX12_differ_1 : decode cX12_differ 1 = .ok (.iconst 0, 1) := dk_3 (dkn dmcX12_differ (by decide +kernel))
theorem dX12_differ_2 : decode cX12_differ 2 = .ok (.putfield 164, 3) := dk_181 (a := 0) (b := 164) (dkn dmcX12_differ (by decide +kernel)) rfl
theorem dX12_differ_5 : decode cX12_differ 5 = .ok (.aload_n 0, 1) := dk_42 (dkn dmcX12_differ (by decide +kernel))
theorem dX12_differ_6 : decode cX12_differ 6 = .ok (.getfield 294, 3) := dk_180 (a := 1) (b := 38) (dkn dmcX12_differ (by decide +kernel)) rfl
theorem dX12_differ_9 : decode cX12_differ 9 = .ok (.ifCond .ne 6, 3) := dk_154 (a := 0) (b := 6) (dkn dmcX12_differ (by decide +kernel)) rfl
theorem dX12_differ_12 : decode cX12_differ 12 = .ok (.bipush (-2), 2) := dk_16 (a := 254) (dkn dmcX12_differ (by decide +kernel)) rfl
theorem dX12_differ_14 : decode cX12_differ 14 = .ok (.ireturn, 1) := dk_172 (dkn dmcX12_differ (by decide +kernel))
theorem dX12_differ_15 : decode cX12_differ 15 = .ok (.iload_n 1, 1) := dk_27 (dkn dmcX12_differ (by decide +kernel))
theorem dX12_differ_16 : decode cX12_differ 16 = .ok (.i2l, 1) := dk_133 (dkn dmcX12_differ (by decide +kernel))
theorem dX12_differ_17 : decode cX12_differ 17 = .ok (.lconst 0, 1) := dk_9 (dkn dmcX12_differ (by decide +kernel))
theorem dX12_differ_18 : decode cX12_differ 18 = .ok (.aload_n 0, 1) := dk_42 (dkn dmcX12_differ (by decide +kernel))
theorem dX12_differ_19 : decode cX12_differ 19 = .ok (.getfield 304, 3) := dk_180 (a := 1) (b := 48) (dkn dmcX12_differ (by decide +kernel)) rfl
theorem dX12_differ_22 : decode cX12_differ 22 = .ok (.i2l, 1) := dk_133 (dkn dmcX12_differ (by decide +kernel))
theorem dX12_differ_23 : decode cX12_differ 23 = .ok (.invokestatic 169, 3) := dk_184 (a := 0) (b := 169) (dkn dmcX12_differ (by decide +kernel)) rfl
theorem dX12_differ_26 : decode cX12_differ 26 = .ok (.ifCond .eq 17, 3) := dk_153 (a := 0) (b := 17) (dkn dmcX12_differ (by decide +kernel)) rfl
theorem dX12_differ_29 : decode cX12_differ 29 = .ok (.iload_n 2, 1) := dk_28 (dkn dmcX12_differ (by decide +kernel))
theorem dX12_differ_30 : decode cX12_differ 30 = .ok (.i2l, 1) := dk_133 (dkn dmcX12_differ (by decide +kernel))
theorem dX12_differ_31 : decode cX12_differ 31 = .ok (.lconst 0, 1) := dk_9 (dkn dmcX12_differ (by decide +kernel))
theorem dX12_differ_32 : decode cX12_differ 32 = .ok (.aload_n 0, 1) := dk_42 (dkn dmcX12_differ (by decide +kernel))
theorem dX12_differ_33 : decode cX12_differ 33 = .ok (.getfield 304, 3) := dk_180 (a := 1) (b := 48) (dkn dmcX12_differ (by decide +kernel)) rfl
theorem dX12_differ_36 : decode cX12_differ 36 = .ok (.i2l, 1) := dk_133 (dkn dmcX12_differ (by decide +kernel))
theorem dX12_differ_37 : decode cX12_differ 37 = .ok (.invokestatic 169, 3) := dk_184 (a := 0) (b := 169) (dkn dmcX12_differ (by decide +kernel)) rfl
theorem dX12_differ_40 : decode cX12_differ 40 = .ok (.ifCond .ne 5, 3) := dk_154 (a := 0) (b := 5) (dkn dmcX12_differ (by decide +kernel)) rfl
theorem dX12_differ_43 : decode cX12_differ 43 = .ok (.iconst (-1), 1) := dk_2 (dkn dmcX12_differ (by decide +kernel))
theorem dX12_differ_44 : decode cX12_differ 44 = .ok (.ireturn, 1) := dk_172 (dkn dmcX12_differ (by decide +kernel))
theorem dX12_differ_45 : decode cX12_differ 45 = .ok (.iconst 0, 1) := dk_3 (dkn dmcX12_differ (by decide +kernel))
theorem dX12_differ_46 : decode cX12_differ 46 = .ok (.istore_n 3, 1) := dk_62 (dkn dmcX12_differ (by decide +kernel))
theorem dX12_differ_47 : decode cX12_differ 47 = .ok (.iconst 0, 1) := dk_3 (dkn dmcX12_differ (by decide +kernel))
theorem dX12_differ_48 : decode cX12_differ 48 = .ok (.istore 4, 2) := dk_54 (dkn dmcX12_differ (by decide +kernel))
theorem dX12_differ_50 : decode cX12_differ 50 = .ok (.iload 4, 2) := dk_21 (dkn dmcX12_differ (by decide +kernel))
theorem dX12_differ_52 : decode cX12_differ 52 = .ok (.bipush 28, 2) := dk_16 (a := 28) (dkn dmcX12_differ (by decide +kernel)) rfl
theorem dX12_differ_54 : decode cX12_differ 54 = .ok (.if_icmp .ge 71, 3) := dk_162 (a := 0) (b := 71) (dkn dmcX12_differ (by decide +kernel)) rfl
theorem dX12_differ_57 : decode cX12_differ 57 = .ok (.iload_n 3, 1) := dk_29 (dkn dmcX12_differ (by decide +kernel))
theorem dX12_differ_58 : decode cX12_differ 58 = .ok (.aload_n 0, 1) := dk_42 (dkn dmcX12_differ (by decide +kernel))
theorem dX12_differ_59 : decode cX12_differ 59 = .ok (.getfield 68, 3) := dk_180 (a := 0) (b := 68) (dkn dmcX12_differ (by decide +kernel)) rfl
theorem dX12_differ_62 : decode cX12_differ 62 = .ok (.bipush 28, 2) := dk_16 (a := 28) (dkn dmcX12_differ (by decide +kernel)) rfl
theorem dX12_differ_64 : decode cX12_differ 64 = .ok (.iload_n 1, 1) := dk_27 (dkn dmcX12_differ (by decide +kernel))
theorem dX12_differ_65 : decode cX12_differ 65 = .ok (.imul, 1) := dk_104 (dkn dmcX12_differ (by decide +kernel))
theorem dX12_differ_66 : decode cX12_differ 66 = .ok (.iload 4, 2) := dk_21 (dkn dmcX12_differ (by decide +kernel))
theorem dX12_differ_68 : decode cX12_differ 68 = .ok (.iadd, 1) := dk_96 (dkn dmcX12_differ (by decide +kernel))
theorem dX12_differ_69 : decode cX12_differ 69 = .ok (.iaload, 1) := dk_46 (dkn dmcX12_differ (by decide +kernel))
theorem dX12_differ_70 : decode cX12_differ 70 = .ok (.aload_n 0, 1) := dk_42 (dkn dmcX12_differ (by decide +kernel))
theorem dX12_differ_71 : decode cX12_differ 71 = .ok (.getfield 68, 3) := dk_180 (a := 0) (b := 68) (dkn dmcX12_differ (by decide +kernel)) rfl
theorem dX12_differ_74 : decode cX12_differ 74 = .ok (.bipush 28, 2) := dk_16 (a := 28) (dkn dmcX12_differ (by decide +kernel)) rfl
theorem dX12_differ_76 : decode cX12_differ 76 = .ok (.iload_n 2, 1) := dk_28 (dkn dmcX12_differ (by decide +kernel))
theorem dX12_differ_77 : decode cX12_differ 77 = .ok (.imul, 1) := dk_104 (dkn dmcX12_differ (by decide +kernel))
theorem dX12_differ_78 : decode cX12_differ 78 = .ok (.iload 4, 2) := dk_21 (dkn dmcX12_differ (by decide +kernel))
theorem dX12_differ_80 : decode cX12_differ 80 = .ok (.iadd, 1) := dk_96 (dkn dmcX12_differ (by decide +kernel))
theorem dX12_differ_81 : decode cX12_differ 81 = .ok (.iaload, 1) := dk_46 (dkn dmcX12_differ (by decide +kernel))
theorem dX12_differ_82 : decode cX12_differ 82 = .ok (.if_icmp .ne 30, 3) := dk_160 (a := 0) (b := 30) (dkn dmcX12_differ (by decide +kernel)) rfl
theorem dX12_differ_85 : decode cX12_differ 85 = .ok (.aload_n 0, 1) := dk_42 (dkn dmcX12_differ (by decide +kernel))
theorem dX12_differ_86 : decode cX12_differ 86 = .ok (.getfield 71, 3) := dk_180 (a := 0) (b := 71) (dkn dmcX12_differ (by decide +kernel)) rfl
theorem dX12_differ_89 : decode cX12_differ 89 = .ok (.bipush 28, 2) := dk_16 (a := 28) (dkn dmcX12_differ (by decide +kernel)) rfl
theorem dX12_differ_91 : decode cX12_differ 91 = .ok (.iload_n 1, 1) := dk_27 (dkn dmcX12_differ (by decide +kernel))
theorem dX12_differ_92 : decode cX12_differ 92 = .ok (.imul, 1) := dk_104 (dkn dmcX12_differ (by decide +kernel))
theorem dX12_differ_93 : decode cX12_differ 93 = .ok (.iload 4, 2) := dk_21 (dkn dmcX12_differ (by decide +kernel))
theorem dX12_differ_95 : decode cX12_differ 95 = .ok (.iadd, 1) := dk_96 (dkn dmcX12_differ (by decide +kernel))
theorem dX12_differ_96 : decode cX12_differ 96 = .ok (.iaload, 1) := dk_46 (dkn dmcX12_differ (by decide +kernel))
theorem dX12_differ_97 : decode cX12_differ 97 = .ok (.aload_n 0, 1) := dk_42 (dkn dmcX12_differ (by decide +kernel))
theorem dX12_differ_98 : decode cX12_differ 98 = .ok (.getfield 71, 3) := dk_180 (a := 0) (b := 71) (dkn dmcX12_differ (by decide +kernel)) rfl
theorem dX12_differ_101 : decode cX12_differ 101 = .ok (.bipush 28, 2) := dk_16 (a := 28) (dkn dmcX12_differ (by decide +kernel)) rfl
theorem dX12_differ_103 : decode cX12_differ 103 = .ok (.iload_n 2, 1) := dk_28 (dkn dmcX12_differ (by decide +kernel))
theorem dX12_differ_104 : decode cX12_differ 104 = .ok (.imul, 1) := dk_104 (dkn dmcX12_differ (by decide +kernel))
theorem dX12_differ_105 : decode cX12_differ 105 = .ok (.iload 4, 2) := dk_21 (dkn dmcX12_differ (by decide +kernel))
theorem dX12_differ_107 : decode cX12_differ 107 = .ok (.iadd, 1) := dk_96 (dkn dmcX12_differ (by decide +kernel))
theorem dX12_differ_108 : decode cX12_differ 108 = .ok (.iaload, 1) := dk_46 (dkn dmcX12_differ (by decide +kernel))
theorem dX12_differ_109 : decode cX12_differ 109 = .ok (.if_icmp .eq 7, 3) := dk_159 (a := 0) (b := 7) (dkn dmcX12_differ (by decide +kernel)) rfl
theorem dX12_differ_112 : decode cX12_differ 112 = .ok (.iconst 1, 1) := dk_4 (dkn dmcX12_differ (by decide +kernel))
theorem dX12_differ_113 : decode cX12_differ 113 = .ok (.goto 4, 3) := dk_167 (a := 0) (b := 4) (dkn dmcX12_differ (by decide +kernel)) rfl
theorem dX12_differ_116 : decode cX12_differ 116 = .ok (.iconst 0, 1) := dk_3 (dkn dmcX12_differ (by decide +kernel))
theorem dX12_differ_117 : decode cX12_differ 117 = .ok (.iadd, 1) := dk_96 (dkn dmcX12_differ (by decide +kernel))
theorem dX12_differ_118 : decode cX12_differ 118 = .ok (.istore_n 3, 1) := dk_62 (dkn dmcX12_differ (by decide +kernel))
theorem dX12_differ_119 : decode cX12_differ 119 = .ok (.iinc 4 1, 3) := dk_132 (b := 1) (dkn dmcX12_differ (by decide +kernel)) rfl
theorem dX12_differ_122 : decode cX12_differ 122 = .ok (.goto (-72), 3) := dk_167 (a := 255) (b := 184) (dkn dmcX12_differ (by decide +kernel)) rfl
theorem dX12_differ_125 : decode cX12_differ 125 = .ok (.iconst 0, 1) := dk_3 (dkn dmcX12_differ (by decide +kernel))
theorem dX12_differ_126 : decode cX12_differ 126 = .ok (.istore 4, 2) := dk_54 (dkn dmcX12_differ (by decide +kernel))
theorem dX12_differ_128 : decode cX12_differ 128 = .ok (.iload 4, 2) := dk_21 (dkn dmcX12_differ (by decide +kernel))
theorem dX12_differ_130 : decode cX12_differ 130 = .ok (.iconst 4, 1) := dk_7 (dkn dmcX12_differ (by decide +kernel))
theorem dX12_differ_131 : decode cX12_differ 131 = .ok (.if_icmp .ge 42, 3) := dk_162 (a := 0) (b := 42) (dkn dmcX12_differ (by decide +kernel)) rfl
theorem dX12_differ_134 : decode cX12_differ 134 = .ok (.iload_n 3, 1) := dk_29 (dkn dmcX12_differ (by decide +kernel))
theorem dX12_differ_135 : decode cX12_differ 135 = .ok (.aload_n 0, 1) := dk_42 (dkn dmcX12_differ (by decide +kernel))
theorem dX12_differ_136 : decode cX12_differ 136 = .ok (.getfield 74, 3) := dk_180 (a := 0) (b := 74) (dkn dmcX12_differ (by decide +kernel)) rfl
theorem dX12_differ_139 : decode cX12_differ 139 = .ok (.iconst 4, 1) := dk_7 (dkn dmcX12_differ (by decide +kernel))
theorem dX12_differ_140 : decode cX12_differ 140 = .ok (.iload_n 1, 1) := dk_27 (dkn dmcX12_differ (by decide +kernel))
theorem dX12_differ_141 : decode cX12_differ 141 = .ok (.imul, 1) := dk_104 (dkn dmcX12_differ (by decide +kernel))
theorem dX12_differ_142 : decode cX12_differ 142 = .ok (.iload 4, 2) := dk_21 (dkn dmcX12_differ (by decide +kernel))
theorem dX12_differ_144 : decode cX12_differ 144 = .ok (.iadd, 1) := dk_96 (dkn dmcX12_differ (by decide +kernel))
theorem dX12_differ_145 : decode cX12_differ 145 = .ok (.iaload, 1) := dk_46 (dkn dmcX12_differ (by decide +kernel))
theorem dX12_differ_146 : decode cX12_differ 146 = .ok (.aload_n 0, 1) := dk_42 (dkn dmcX12_differ (by decide +kernel))
theorem dX12_differ_147 : decode cX12_differ 147 = .ok (.getfield 74, 3) := dk_180 (a := 0) (b := 74) (dkn dmcX12_differ (by decide +kernel)) rfl
theorem dX12_differ_150 : decode cX12_differ 150 = .ok (.iconst 4, 1) := dk_7 (dkn dmcX12_differ (by decide +kernel))
theorem dX12_differ_151 : decode cX12_differ 151 = .ok (.iload_n 2, 1) := dk_28 (dkn dmcX12_differ (by decide +kernel))
theorem dX12_differ_152 : decode cX12_differ 152 = .ok (.imul, 1) := dk_104 (dkn dmcX12_differ (by decide +kernel))
theorem dX12_differ_153 : decode cX12_differ 153 = .ok (.iload 4, 2) := dk_21 (dkn dmcX12_differ (by decide +kernel))
theorem dX12_differ_155 : decode cX12_differ 155 = .ok (.iadd, 1) := dk_96 (dkn dmcX12_differ (by decide +kernel))
theorem dX12_differ_156 : decode cX12_differ 156 = .ok (.iaload, 1) := dk_46 (dkn dmcX12_differ (by decide +kernel))
theorem dX12_differ_157 : decode cX12_differ 157 = .ok (.if_icmp .eq 7, 3) := dk_159 (a := 0) (b := 7) (dkn dmcX12_differ (by decide +kernel)) rfl
theorem dX12_differ_160 : decode cX12_differ 160 = .ok (.iconst 1, 1) := dk_4 (dkn dmcX12_differ (by decide +kernel))
theorem dX12_differ_161 : decode cX12_differ 161 = .ok (.goto 4, 3) := dk_167 (a := 0) (b := 4) (dkn dmcX12_differ (by decide +kernel)) rfl
theorem dX12_differ_164 : decode cX12_differ 164 = .ok (.iconst 0, 1) := dk_3 (dkn dmcX12_differ (by decide +kernel))
theorem dX12_differ_165 : decode cX12_differ 165 = .ok (.iadd, 1) := dk_96 (dkn dmcX12_differ (by decide +kernel))
theorem dX12_differ_166 : decode cX12_differ 166 = .ok (.istore_n 3, 1) := dk_62 (dkn dmcX12_differ (by decide +kernel))
theorem dX12_differ_167 : decode cX12_differ 167 = .ok (.iinc 4 1, 3) := dk_132 (b := 1) (dkn dmcX12_differ (by decide +kernel)) rfl
theorem dX12_differ_170 : decode cX12_differ 170 = .ok (.goto (-42), 3) := dk_167 (a := 255) (b := 214) (dkn dmcX12_differ (by decide +kernel)) rfl
theorem dX12_differ_173 : decode cX12_differ 173 = .ok (.iload_n 3, 1) := dk_29 (dkn dmcX12_differ (by decide +kernel))
theorem dX12_differ_174 : decode cX12_differ 174 = .ok (.ireturn, 1) := dk_172 (dkn dmcX12_differ (by decide +kernel))
def dncX12_tryRun : Nat := 0xac030400a7040700a05401b42a1b90ffa70101843d2e1b8f00b42aac0305009ad700b62e1b8f00b42a2a10009f1c2e1b8f00b42a1a009b1c1e009f2c0111bf00b42a28009dc200b42acbffa02e1b8c00b42abf00b42ad8ffa25401b42a1b3d1a01b6c500b42a2a1301b61c2a6100a22c0111bf00b42a6b009ac200b42a72009b1c3d1a01b6032a3c031d01b62a
theorem dmcX12_tryRun : dkc dncX12_tryRun 141 cX12_tryRun.data.toList 0 = true := by decide +kernel
theorem dX12_tryRun_0 : decode cX12_tryRun 0 = .ok (.aload_n 0, 1) := dk_42 (dkn dmcX12_tryRun (by decide +kernel))
theorem dX12_tryRun_1 : decode cX12_tryRun 1 = .ok (.invokevirtual 285, 3) := dk_182 (a := 1) (b := 29) (dkn dmcX12_tryRun (by decide +kernel)) rfl
theorem dX12_tryRun_4 : decode cX12_tryRun 4 = .ok (.iconst 0, 1) := dk_3 (dkn dmcX12_tryRun (by decide +kernel))
theorem dX12_tryRun_5 : decode cX12_tryRun 5 = .ok (.istore_n 1, 1) := dk_60 (dkn dmcX12_tryRun (by decide +kernel))
theorem dX12_tryRun_6 : decode cX12_tryRun 6 = .ok (.aload_n 0, 1) := dk_42 (dkn dmcX12_tryRun (by decide +kernel))
theorem dX12_tryRun_7 : decode cX12_tryRun 7 = .ok (.iconst 0, 1) := dk_3 (dkn dmcX12_tryRun (by decide +kernel))
theorem dX12_tryRun_8 : decode cX12_tryRun 8 = .ok (.invokevirtual 282, 3) := dk_182 (a := 1) (b := 26) (dkn dmcX12_tryRun (by decide +kernel)) rfl
theorem dX12_tryRun_11 : decode cX12_tryRun 11 = .ok (.istore_n 2, 1) := dk_61 (dkn dmcX12_tryRun (by decide +kernel))
theorem dX12_tryRun_12 : decode cX12_tryRun 12 = .ok (.iload_n 2, 1) := dk_28 (dkn dmcX12_tryRun (by decide +kernel))
theorem dX12_tryRun_13 : decode cX12_tryRun 13 = .ok (.ifCond .lt 114, 3) := dk_155 (a := 0) (b := 114) (dkn dmcX12_tryRun (by decide +kernel)) rfl
theorem dX12_tryRun_16 : decode cX12_tryRun 16 = .ok (.aload_n 0, 1) := dk_42 (dkn dmcX12_tryRun (by decide +kernel))
theorem dX12_tryRun_17 : decode cX12_tryRun 17 = .ok (.getfield 194, 3) := dk_180 (a := 0) (b := 194) (dkn dmcX12_tryRun (by decide +kernel)) rfl
theorem dX12_tryRun_20 : decode cX12_tryRun 20 = .ok (.ifCond .ne 107, 3) := dk_154 (a := 0) (b := 107) (dkn dmcX12_tryRun (by decide +kernel)) rfl
theorem dX12_tryRun_23 : decode cX12_tryRun 23 = .ok (.aload_n 0, 1) := dk_42 (dkn dmcX12_tryRun (by decide +kernel))
theorem dX12_tryRun_24 : decode cX12_tryRun 24 = .ok (.getfield 191, 3) := dk_180 (a := 0) (b := 191) (dkn dmcX12_tryRun (by decide +kernel)) rfl
theorem dX12_tryRun_27 : decode cX12_tryRun 27 = .ok (.sipush 300, 3) := dk_17 (a := 1) (b := 44) (dkn dmcX12_tryRun (by decide +kernel)) rfl
theorem dX12_tryRun_30 : decode cX12_tryRun 30 = .ok (.if_icmp .ge 97, 3) := dk_162 (a := 0) (b := 97) (dkn dmcX12_tryRun (by decide +kernel)) rfl
theorem dX12_tryRun_33 : decode cX12_tryRun 33 = .ok (.aload_n 0, 1) := dk_42 (dkn dmcX12_tryRun (by decide +kernel))
theorem dX12_tryRun_34 : decode cX12_tryRun 34 = .ok (.iload_n 2, 1) := dk_28 (dkn dmcX12_tryRun (by decide +kernel))
theorem dX12_tryRun_35 : decode cX12_tryRun 35 = .ok (.invokevirtual 275, 3) := dk_182 (a := 1) (b := 19) (dkn dmcX12_tryRun (by decide +kernel)) rfl
theorem dX12_tryRun_38 : decode cX12_tryRun 38 = .ok (.aload_n 0, 1) := dk_42 (dkn dmcX12_tryRun (by decide +kernel))
theorem dX12_tryRun_39 : decode cX12_tryRun 39 = .ok (.aload_n 0, 1) := dk_42 (dkn dmcX12_tryRun (by decide +kernel))
theorem dX12_tryRun_40 : decode cX12_tryRun 40 = .ok (.getfield 197, 3) := dk_180 (a := 0) (b := 197) (dkn dmcX12_tryRun (by decide +kernel)) rfl
theorem dX12_tryRun_43 : decode cX12_tryRun 43 = .ok (.invokevirtual 282, 3) := dk_182 (a := 1) (b := 26) (dkn dmcX12_tryRun (by decide +kernel)) rfl
theorem dX12_tryRun_46 : decode cX12_tryRun 46 = .ok (.istore_n 2, 1) := dk_61 (dkn dmcX12_tryRun (by decide +kernel))
theorem dX12_tryRun_47 : decode cX12_tryRun 47 = .ok (.iload_n 1, 1) := dk_27 (dkn dmcX12_tryRun (by decide +kernel))
theorem dX12_tryRun_48 : decode cX12_tryRun 48 = .ok (.aload_n 0, 1) := dk_42 (dkn dmcX12_tryRun (by decide +kernel))
theorem dX12_tryRun_49 : decode cX12_tryRun 49 = .ok (.getfield 340, 3) := dk_180 (a := 1) (b := 84) (dkn dmcX12_tryRun (by decide +kernel)) rfl
theorem dX12_tryRun_52 : decode cX12_tryRun 52 = .ok (.if_icmp .ge (-40), 3) := dk_162 (a := 255) (b := 216) (dkn dmcX12_tryRun (by decide +kernel)) rfl
theorem dX12_tryRun_55 : decode cX12_tryRun 55 = .ok (.aload_n 0, 1) := dk_42 (dkn dmcX12_tryRun (by decide +kernel))
theorem dX12_tryRun_56 : decode cX12_tryRun 56 = .ok (.getfield 191, 3) := dk_180 (a := 0) (b := 191) (dkn dmcX12_tryRun (by decide +kernel)) rfl
theorem dX12_tryRun_59 : decode cX12_tryRun 59 = .ok (.aload_n 0, 1) := dk_42 (dkn dmcX12_tryRun (by decide +kernel))
theorem dX12_tryRun_60 : decode cX12_tryRun 60 = .ok (.getfield 140, 3) := dk_180 (a := 0) (b := 140) (dkn dmcX12_tryRun (by decide +kernel)) rfl
theorem dX12_tryRun_63 : decode cX12_tryRun 63 = .ok (.iload_n 1, 1) := dk_27 (dkn dmcX12_tryRun (by decide +kernel))
theorem dX12_tryRun_64 : decode cX12_tryRun 64 = .ok (.iaload, 1) := dk_46 (dkn dmcX12_tryRun (by decide +kernel))
theorem dX12_tryRun_65 : decode cX12_tryRun 65 = .ok (.if_icmp .ne (-53), 3) := dk_160 (a := 255) (b := 203) (dkn dmcX12_tryRun (by decide +kernel)) rfl
theorem dX12_tryRun_68 : decode cX12_tryRun 68 = .ok (.aload_n 0, 1) := dk_42 (dkn dmcX12_tryRun (by decide +kernel))
theorem dX12_tryRun_69 : decode cX12_tryRun 69 = .ok (.getfield 194, 3) := dk_180 (a := 0) (b := 194) (dkn dmcX12_tryRun (by decide +kernel)) rfl
theorem dX12_tryRun_72 : decode cX12_tryRun 72 = .ok (.ifCond .gt 40, 3) := dk_157 (a := 0) (b := 40) (dkn dmcX12_tryRun (by decide +kernel)) rfl
theorem dX12_tryRun_75 : decode cX12_tryRun 75 = .ok (.aload_n 0, 1) := dk_42 (dkn dmcX12_tryRun (by decide +kernel))
theorem dX12_tryRun_76 : decode cX12_tryRun 76 = .ok (.getfield 191, 3) := dk_180 (a := 0) (b := 191) (dkn dmcX12_tryRun (by decide +kernel)) rfl
theorem dX12_tryRun_79 : decode cX12_tryRun 79 = .ok (.sipush 300, 3) := dk_17 (a := 1) (b := 44) (dkn dmcX12_tryRun (by decide +kernel)) rfl
theorem dX12_tryRun_82 : decode cX12_tryRun 82 = .ok (.if_icmp .eq 30, 3) := dk_159 (a := 0) (b := 30) (dkn dmcX12_tryRun (by decide +kernel)) rfl
theorem dX12_tryRun_85 : decode cX12_tryRun 85 = .ok (.iload_n 2, 1) := dk_28 (dkn dmcX12_tryRun (by decide +kernel))
theorem dX12_tryRun_86 : decode cX12_tryRun 86 = .ok (.ifCond .lt 26, 3) := dk_155 (a := 0) (b := 26) (dkn dmcX12_tryRun (by decide +kernel)) rfl
theorem dX12_tryRun_89 : decode cX12_tryRun 89 = .ok (.aload_n 0, 1) := dk_42 (dkn dmcX12_tryRun (by decide +kernel))
theorem dX12_tryRun_90 : decode cX12_tryRun 90 = .ok (.getfield 143, 3) := dk_180 (a := 0) (b := 143) (dkn dmcX12_tryRun (by decide +kernel)) rfl
theorem dX12_tryRun_93 : decode cX12_tryRun 93 = .ok (.iload_n 1, 1) := dk_27 (dkn dmcX12_tryRun (by decide +kernel))
theorem dX12_tryRun_94 : decode cX12_tryRun 94 = .ok (.iaload, 1) := dk_46 (dkn dmcX12_tryRun (by decide +kernel))
theorem dX12_tryRun_95 : decode cX12_tryRun 95 = .ok (.iload_n 2, 1) := dk_28 (dkn dmcX12_tryRun (by decide +kernel))
theorem dX12_tryRun_96 : decode cX12_tryRun 96 = .ok (.if_icmp .eq 16, 3) := dk_159 (a := 0) (b := 16) (dkn dmcX12_tryRun (by decide +kernel)) rfl
theorem dX12_tryRun_99 : decode cX12_tryRun 99 = .ok (.aload_n 0, 1) := dk_42 (dkn dmcX12_tryRun (by decide +kernel))
theorem dX12_tryRun_100 : decode cX12_tryRun 100 = .ok (.aload_n 0, 1) := dk_42 (dkn dmcX12_tryRun (by decide +kernel))
theorem dX12_tryRun_101 : decode cX12_tryRun 101 = .ok (.getfield 143, 3) := dk_180 (a := 0) (b := 143) (dkn dmcX12_tryRun (by decide +kernel)) rfl
theorem dX12_tryRun_104 : decode cX12_tryRun 104 = .ok (.iload_n 1, 1) := dk_27 (dkn dmcX12_tryRun (by decide +kernel))
theorem dX12_tryRun_105 : decode cX12_tryRun 105 = .ok (.iaload, 1) := dk_46 (dkn dmcX12_tryRun (by decide +kernel))
theorem dX12_tryRun_106 : decode cX12_tryRun 106 = .ok (.invokevirtual 215, 3) := dk_182 (a := 0) (b := 215) (dkn dmcX12_tryRun (by decide +kernel)) rfl
theorem dX12_tryRun_109 : decode cX12_tryRun 109 = .ok (.ifCond .ne 5, 3) := dk_154 (a := 0) (b := 5) (dkn dmcX12_tryRun (by decide +kernel)) rfl
theorem dX12_tryRun_112 : decode cX12_tryRun 112 = .ok (.iconst 0, 1) := dk_3 (dkn dmcX12_tryRun (by decide +kernel))
theorem dX12_tryRun_113 : decode cX12_tryRun 113 = .ok (.ireturn, 1) := dk_172 (dkn dmcX12_tryRun (by decide +kernel))
theorem dX12_tryRun_114 : decode cX12_tryRun 114 = .ok (.aload_n 0, 1) := dk_42 (dkn dmcX12_tryRun (by decide +kernel))
theorem dX12_tryRun_115 : decode cX12_tryRun 115 = .ok (.getfield 143, 3) := dk_180 (a := 0) (b := 143) (dkn dmcX12_tryRun (by decide +kernel)) rfl
theorem dX12_tryRun_118 : decode cX12_tryRun 118 = .ok (.iload_n 1, 1) := dk_27 (dkn dmcX12_tryRun (by decide +kernel))
theorem dX12_tryRun_119 : decode cX12_tryRun 119 = .ok (.iaload, 1) := dk_46 (dkn dmcX12_tryRun (by decide +kernel))
theorem dX12_tryRun_120 : decode cX12_tryRun 120 = .ok (.istore_n 2, 1) := dk_61 (dkn dmcX12_tryRun (by decide +kernel))
theorem dX12_tryRun_121 : decode cX12_tryRun 121 = .ok (.iinc 1 1, 3) := dk_132 (b := 1) (dkn dmcX12_tryRun (by decide +kernel)) rfl
theorem dX12_tryRun_124 : decode cX12_tryRun 124 = .ok (.goto (-112), 3) := dk_167 (a := 255) (b := 144) (dkn dmcX12_tryRun (by decide +kernel)) rfl
theorem dX12_tryRun_127 : decode cX12_tryRun 127 = .ok (.iload_n 1, 1) := dk_27 (dkn dmcX12_tryRun (by decide +kernel))
theorem dX12_tryRun_128 : decode cX12_tryRun 128 = .ok (.aload_n 0, 1) := dk_42 (dkn dmcX12_tryRun (by decide +kernel))
theorem dX12_tryRun_129 : decode cX12_tryRun 129 = .ok (.getfield 340, 3) := dk_180 (a := 1) (b := 84) (dkn dmcX12_tryRun (by decide +kernel)) rfl
theorem dX12_tryRun_132 : decode cX12_tryRun 132 = .ok (.if_icmp .ne 7, 3) := dk_160 (a := 0) (b := 7) (dkn dmcX12_tryRun (by decide +kernel)) rfl
theorem dX12_tryRun_135 : decode cX12_tryRun 135 = .ok (.iconst 1, 1) := dk_4 (dkn dmcX12_tryRun (by decide +kernel))
theorem dX12_tryRun_136 : decode cX12_tryRun 136 = .ok (.goto 4, 3) := dk_167 (a := 0) (b := 4) (dkn dmcX12_tryRun (by decide +kernel)) rfl
theorem dX12_tryRun_139 : decode cX12_tryRun 139 = .ok (.iconst 0, 1) := dk_3 (dkn dmcX12_tryRun (by decide +kernel))
theorem dX12_tryRun_140 : decode cX12_tryRun 140 = .ok (.ireturn, 1) := dk_172 (dkn dmcX12_tryRun (by decide +kernel))
def dncX12_isOver : Nat := 0xac030400a7040700a06301b42a5701b42a0e009d5a01b42a6001b5c200b42a2ae0ffa70101844f2e1b8f00b42a1b8900b42a4f2e1b8c00b42a1b8600b42a2100a2051b3c035d01b55401b42a2a5a01b55701b42a2a40009a5a01b42a47009ec200b42a5701b560045701b4592a
theorem dmcX12_isOver : dkc dncX12_isOver 109 cX12_isOver.data.toList 0 = true := by decide +kernel
theorem dX12_isOver_0 : decode cX12_isOver 0 = .ok (.aload_n 0, 1) := dk_42 (dkn dmcX12_isOver (by decide +kernel))
theorem dX12_isOver_1 : decode cX12_isOver 1 = .ok (.dup, 1) := dk_89 (dkn dmcX12_isOver (by decide +kernel))
theorem dX12_isOver_2 : decode cX12_isOver 2 = .ok (.getfield 343, 3) := dk_180 (a := 1) (b := 87) (dkn dmcX12_isOver (by decide +kernel)) rfl
theorem dX12_isOver_5 : decode cX12_isOver 5 = .ok (.iconst 1, 1) := dk_4 (dkn dmcX12_isOver (by decide +kernel))
theorem dX12_isOver_6 : decode cX12_isOver 6 = .ok (.iadd, 1) := dk_96 (dkn dmcX12_isOver (by decide +kernel))
theorem dX12_isOver_7 : decode cX12_isOver 7 = .ok (.putfield 343, 3) := dk_181 (a := 1) (b := 87) (dkn dmcX12_isOver (by decide +kernel)) rfl
theorem dX12_isOver_10 : decode cX12_isOver 10 = .ok (.aload_n 0, 1) := dk_42 (dkn dmcX12_isOver (by decide +kernel))
theorem dX12_isOver_11 : decode cX12_isOver 11 = .ok (.getfield 194, 3) := dk_180 (a := 0) (b := 194) (dkn dmcX12_isOver (by decide +kernel)) rfl
theorem dX12_isOver_14 : decode cX12_isOver 14 = .ok (.ifCond .le 71, 3) := dk_158 (a := 0) (b := 71) (dkn dmcX12_isOver (by decide +kernel)) rfl
theorem dX12_isOver_17 : decode cX12_isOver 17 = .ok (.aload_n 0, 1) := dk_42 (dkn dmcX12_isOver (by decide +kernel))
theorem dX12_isOver_18 : decode cX12_isOver 18 = .ok (.getfield 346, 3) := dk_180 (a := 1) (b := 90) (dkn dmcX12_isOver (by decide +kernel)) rfl
theorem dX12_isOver_21 : decode cX12_isOver 21 = .ok (.ifCond .ne 64, 3) := dk_154 (a := 0) (b := 64) (dkn dmcX12_isOver (by decide +kernel)) rfl
theorem dX12_isOver_24 : decode cX12_isOver 24 = .ok (.aload_n 0, 1) := dk_42 (dkn dmcX12_isOver (by decide +kernel))
theorem dX12_isOver_25 : decode cX12_isOver 25 = .ok (.aload_n 0, 1) := dk_42 (dkn dmcX12_isOver (by decide +kernel))
theorem dX12_isOver_26 : decode cX12_isOver 26 = .ok (.getfield 343, 3) := dk_180 (a := 1) (b := 87) (dkn dmcX12_isOver (by decide +kernel)) rfl
theorem dX12_isOver_29 : decode cX12_isOver 29 = .ok (.putfield 346, 3) := dk_181 (a := 1) (b := 90) (dkn dmcX12_isOver (by decide +kernel)) rfl
theorem dX12_isOver_32 : decode cX12_isOver 32 = .ok (.aload_n 0, 1) := dk_42 (dkn dmcX12_isOver (by decide +kernel))
theorem dX12_isOver_33 : decode cX12_isOver 33 = .ok (.aload_n 0, 1) := dk_42 (dkn dmcX12_isOver (by decide +kernel))
theorem dX12_isOver_34 : decode cX12_isOver 34 = .ok (.getfield 340, 3) := dk_180 (a := 1) (b := 84) (dkn dmcX12_isOver (by decide +kernel)) rfl
theorem dX12_isOver_37 : decode cX12_isOver 37 = .ok (.putfield 349, 3) := dk_181 (a := 1) (b := 93) (dkn dmcX12_isOver (by decide +kernel)) rfl
theorem dX12_isOver_40 : decode cX12_isOver 40 = .ok (.iconst 0, 1) := dk_3 (dkn dmcX12_isOver (by decide +kernel))
theorem dX12_isOver_41 : decode cX12_isOver 41 = .ok (.istore_n 1, 1) := dk_60 (dkn dmcX12_isOver (by decide +kernel))
theorem dX12_isOver_42 : decode cX12_isOver 42 = .ok (.iload_n 1, 1) := dk_27 (dkn dmcX12_isOver (by decide +kernel))
theorem dX12_isOver_43 : decode cX12_isOver 43 = .ok (.iconst 2, 1) := dk_5 (dkn dmcX12_isOver (by decide +kernel))
theorem dX12_isOver_44 : decode cX12_isOver 44 = .ok (.if_icmp .ge 33, 3) := dk_162 (a := 0) (b := 33) (dkn dmcX12_isOver (by decide +kernel)) rfl
theorem dX12_isOver_47 : decode cX12_isOver 47 = .ok (.aload_n 0, 1) := dk_42 (dkn dmcX12_isOver (by decide +kernel))
theorem dX12_isOver_48 : decode cX12_isOver 48 = .ok (.getfield 134, 3) := dk_180 (a := 0) (b := 134) (dkn dmcX12_isOver (by decide +kernel)) rfl
theorem dX12_isOver_51 : decode cX12_isOver 51 = .ok (.iload_n 1, 1) := dk_27 (dkn dmcX12_isOver (by decide +kernel))
theorem dX12_isOver_52 : decode cX12_isOver 52 = .ok (.aload_n 0, 1) := dk_42 (dkn dmcX12_isOver (by decide +kernel))
theorem dX12_isOver_53 : decode cX12_isOver 53 = .ok (.getfield 140, 3) := dk_180 (a := 0) (b := 140) (dkn dmcX12_isOver (by decide +kernel)) rfl
theorem dX12_isOver_56 : decode cX12_isOver 56 = .ok (.iload_n 1, 1) := dk_27 (dkn dmcX12_isOver (by decide +kernel))
theorem dX12_isOver_57 : decode cX12_isOver 57 = .ok (.iaload, 1) := dk_46 (dkn dmcX12_isOver (by decide +kernel))
theorem dX12_isOver_58 : decode cX12_isOver 58 = .ok (.iastore, 1) := dk_79 (dkn dmcX12_isOver (by decide +kernel))
theorem dX12_isOver_59 : decode cX12_isOver 59 = .ok (.aload_n 0, 1) := dk_42 (dkn dmcX12_isOver (by decide +kernel))
theorem dX12_isOver_60 : decode cX12_isOver 60 = .ok (.getfield 137, 3) := dk_180 (a := 0) (b := 137) (dkn dmcX12_isOver (by decide +kernel)) rfl
theorem dX12_isOver_63 : decode cX12_isOver 63 = .ok (.iload_n 1, 1) := dk_27 (dkn dmcX12_isOver (by decide +kernel))
theorem dX12_isOver_64 : decode cX12_isOver 64 = .ok (.aload_n 0, 1) := dk_42 (dkn dmcX12_isOver (by decide +kernel))
theorem dX12_isOver_65 : decode cX12_isOver 65 = .ok (.getfield 143, 3) := dk_180 (a := 0) (b := 143) (dkn dmcX12_isOver (by decide +kernel)) rfl
theorem dX12_isOver_68 : decode cX12_isOver 68 = .ok (.iload_n 1, 1) := dk_27 (dkn dmcX12_isOver (by decide +kernel))
theorem dX12_isOver_69 : decode cX12_isOver 69 = .ok (.iaload, 1) := dk_46 (dkn dmcX12_isOver (by decide +kernel))
theorem dX12_isOver_70 : decode cX12_isOver 70 = .ok (.iastore, 1) := dk_79 (dkn dmcX12_isOver (by decide +kernel))
theorem dX12_isOver_71 : decode cX12_isOver 71 = .ok (.iinc 1 1, 3) := dk_132 (b := 1) (dkn dmcX12_isOver (by decide +kernel)) rfl
theorem dX12_isOver_74 : decode cX12_isOver 74 = .ok (.goto (-32), 3) := dk_167 (a := 255) (b := 224) (dkn dmcX12_isOver (by decide +kernel)) rfl
theorem dX12_isOver_77 : decode cX12_isOver 77 = .ok (.aload_n 0, 1) := dk_42 (dkn dmcX12_isOver (by decide +kernel))
theorem dX12_isOver_78 : decode cX12_isOver 78 = .ok (.aload_n 0, 1) := dk_42 (dkn dmcX12_isOver (by decide +kernel))
theorem dX12_isOver_79 : decode cX12_isOver 79 = .ok (.getfield 194, 3) := dk_180 (a := 0) (b := 194) (dkn dmcX12_isOver (by decide +kernel)) rfl
theorem dX12_isOver_82 : decode cX12_isOver 82 = .ok (.putfield 352, 3) := dk_181 (a := 1) (b := 96) (dkn dmcX12_isOver (by decide +kernel)) rfl
theorem dX12_isOver_85 : decode cX12_isOver 85 = .ok (.aload_n 0, 1) := dk_42 (dkn dmcX12_isOver (by decide +kernel))
theorem dX12_isOver_86 : decode cX12_isOver 86 = .ok (.getfield 346, 3) := dk_180 (a := 1) (b := 90) (dkn dmcX12_isOver (by decide +kernel)) rfl
theorem dX12_isOver_89 : decode cX12_isOver 89 = .ok (.ifCond .gt 14, 3) := dk_157 (a := 0) (b := 14) (dkn dmcX12_isOver (by decide +kernel)) rfl
theorem dX12_isOver_92 : decode cX12_isOver 92 = .ok (.aload_n 0, 1) := dk_42 (dkn dmcX12_isOver (by decide +kernel))
theorem dX12_isOver_93 : decode cX12_isOver 93 = .ok (.getfield 343, 3) := dk_180 (a := 1) (b := 87) (dkn dmcX12_isOver (by decide +kernel)) rfl
theorem dX12_isOver_96 : decode cX12_isOver 96 = .ok (.aload_n 0, 1) := dk_42 (dkn dmcX12_isOver (by decide +kernel))
theorem dX12_isOver_97 : decode cX12_isOver 97 = .ok (.getfield 355, 3) := dk_180 (a := 1) (b := 99) (dkn dmcX12_isOver (by decide +kernel)) rfl
theorem dX12_isOver_100 : decode cX12_isOver 100 = .ok (.if_icmp .ne 7, 3) := dk_160 (a := 0) (b := 7) (dkn dmcX12_isOver (by decide +kernel)) rfl
theorem dX12_isOver_103 : decode cX12_isOver 103 = .ok (.iconst 1, 1) := dk_4 (dkn dmcX12_isOver (by decide +kernel))
theorem dX12_isOver_104 : decode cX12_isOver 104 = .ok (.goto 4, 3) := dk_167 (a := 0) (b := 4) (dkn dmcX12_isOver (by decide +kernel)) rfl
theorem dX12_isOver_107 : decode cX12_isOver 107 = .ok (.iconst 0, 1) := dk_3 (dkn dmcX12_isOver (by decide +kernel))
theorem dX12_isOver_108 : decode cX12_isOver 108 = .ok (.ireturn, 1) := dk_172 (dkn dmcX12_isOver (by decide +kernel))
def dncX12_tryLast : Nat := 0xac03c1ffa7010484d0ffa7010584ac040500996a01b62a0c00996601b62a4f05151b8f00b42a4f04151b8c00b42a5401b560041b2a3000a20705150536033f00a21d041504361c
theorem dmcX12_tryLast : dkc dncX12_tryLast 71 cX12_tryLast.data.toList 0 = true := by decide +kernel
theorem dX12_tryLast_0 : decode cX12_tryLast 0 = .ok (.iload_n 2, 1) := dk_28 (dkn dmcX12_tryLast (by decide +kernel))
theorem dX12_tryLast_1 : decode cX12_tryLast 1 = .ok (.istore 4, 2) := dk_54 (dkn dmcX12_tryLast (by decide +kernel))
theorem dX12_tryLast_3 : decode cX12_tryLast 3 = .ok (.iload 4, 2) := dk_21 (dkn dmcX12_tryLast (by decide +kernel))
theorem dX12_tryLast_5 : decode cX12_tryLast 5 = .ok (.iload_n 3, 1) := dk_29 (dkn dmcX12_tryLast (by decide +kernel))
theorem dX12_tryLast_6 : decode cX12_tryLast 6 = .ok (.if_icmp .ge 63, 3) := dk_162 (a := 0) (b := 63) (dkn dmcX12_tryLast (by decide +kernel)) rfl
theorem dX12_tryLast_9 : decode cX12_tryLast 9 = .ok (.iconst 0, 1) := dk_3 (dkn dmcX12_tryLast (by decide +kernel))
theorem dX12_tryLast_10 : decode cX12_tryLast 10 = .ok (.istore 5, 2) := dk_54 (dkn dmcX12_tryLast (by decide +kernel))
theorem dX12_tryLast_12 : decode cX12_tryLast 12 = .ok (.iload 5, 2) := dk_21 (dkn dmcX12_tryLast (by decide +kernel))
theorem dX12_tryLast_14 : decode cX12_tryLast 14 = .ok (.iconst 4, 1) := dk_7 (dkn dmcX12_tryLast (by decide +kernel))
theorem dX12_tryLast_15 : decode cX12_tryLast 15 = .ok (.if_icmp .ge 48, 3) := dk_162 (a := 0) (b := 48) (dkn dmcX12_tryLast (by decide +kernel)) rfl
theorem dX12_tryLast_18 : decode cX12_tryLast 18 = .ok (.aload_n 0, 1) := dk_42 (dkn dmcX12_tryLast (by decide +kernel))
theorem dX12_tryLast_19 : decode cX12_tryLast 19 = .ok (.iload_n 1, 1) := dk_27 (dkn dmcX12_tryLast (by decide +kernel))
theorem dX12_tryLast_20 : decode cX12_tryLast 20 = .ok (.iconst 1, 1) := dk_4 (dkn dmcX12_tryLast (by decide +kernel))
theorem dX12_tryLast_21 : decode cX12_tryLast 21 = .ok (.iadd, 1) := dk_96 (dkn dmcX12_tryLast (by decide +kernel))
theorem dX12_tryLast_22 : decode cX12_tryLast 22 = .ok (.putfield 340, 3) := dk_181 (a := 1) (b := 84) (dkn dmcX12_tryLast (by decide +kernel)) rfl
theorem dX12_tryLast_25 : decode cX12_tryLast 25 = .ok (.aload_n 0, 1) := dk_42 (dkn dmcX12_tryLast (by decide +kernel))
theorem dX12_tryLast_26 : decode cX12_tryLast 26 = .ok (.getfield 140, 3) := dk_180 (a := 0) (b := 140) (dkn dmcX12_tryLast (by decide +kernel)) rfl
theorem dX12_tryLast_29 : decode cX12_tryLast 29 = .ok (.iload_n 1, 1) := dk_27 (dkn dmcX12_tryLast (by decide +kernel))
theorem dX12_tryLast_30 : decode cX12_tryLast 30 = .ok (.iload 4, 2) := dk_21 (dkn dmcX12_tryLast (by decide +kernel))
theorem dX12_tryLast_32 : decode cX12_tryLast 32 = .ok (.iastore, 1) := dk_79 (dkn dmcX12_tryLast (by decide +kernel))
theorem dX12_tryLast_33 : decode cX12_tryLast 33 = .ok (.aload_n 0, 1) := dk_42 (dkn dmcX12_tryLast (by decide +kernel))
theorem dX12_tryLast_34 : decode cX12_tryLast 34 = .ok (.getfield 143, 3) := dk_180 (a := 0) (b := 143) (dkn dmcX12_tryLast (by decide +kernel)) rfl
theorem dX12_tryLast_37 : decode cX12_tryLast 37 = .ok (.iload_n 1, 1) := dk_27 (dkn dmcX12_tryLast (by decide +kernel))
theorem dX12_tryLast_38 : decode cX12_tryLast 38 = .ok (.iload 5, 2) := dk_21 (dkn dmcX12_tryLast (by decide +kernel))
theorem dX12_tryLast_40 : decode cX12_tryLast 40 = .ok (.iastore, 1) := dk_79 (dkn dmcX12_tryLast (by decide +kernel))
theorem dX12_tryLast_41 : decode cX12_tryLast 41 = .ok (.aload_n 0, 1) := dk_42 (dkn dmcX12_tryLast (by decide +kernel))
theorem dX12_tryLast_42 : decode cX12_tryLast 42 = .ok (.invokevirtual 358, 3) := dk_182 (a := 1) (b := 102) (dkn dmcX12_tryLast (by decide +kernel)) rfl
theorem dX12_tryLast_45 : decode cX12_tryLast 45 = .ok (.ifCond .eq 12, 3) := dk_153 (a := 0) (b := 12) (dkn dmcX12_tryLast (by decide +kernel)) rfl
theorem dX12_tryLast_48 : decode cX12_tryLast 48 = .ok (.aload_n 0, 1) := dk_42 (dkn dmcX12_tryLast (by decide +kernel))
theorem dX12_tryLast_49 : decode cX12_tryLast 49 = .ok (.invokevirtual 362, 3) := dk_182 (a := 1) (b := 106) (dkn dmcX12_tryLast (by decide +kernel)) rfl
theorem dX12_tryLast_52 : decode cX12_tryLast 52 = .ok (.ifCond .eq 5, 3) := dk_153 (a := 0) (b := 5) (dkn dmcX12_tryLast (by decide +kernel)) rfl
theorem dX12_tryLast_55 : decode cX12_tryLast 55 = .ok (.iconst 1, 1) := dk_4 (dkn dmcX12_tryLast (by decide +kernel))
theorem dX12_tryLast_56 : decode cX12_tryLast 56 = .ok (.ireturn, 1) := dk_172 (dkn dmcX12_tryLast (by decide +kernel))
theorem dX12_tryLast_57 : decode cX12_tryLast 57 = .ok (.iinc 5 1, 3) := dk_132 (b := 1) (dkn dmcX12_tryLast (by decide +kernel)) rfl
theorem dX12_tryLast_60 : decode cX12_tryLast 60 = .ok (.goto (-48), 3) := dk_167 (a := 255) (b := 208) (dkn dmcX12_tryLast (by decide +kernel)) rfl
theorem dX12_tryLast_63 : decode cX12_tryLast 63 = .ok (.iinc 4 1, 3) := dk_132 (b := 1) (dkn dmcX12_tryLast (by decide +kernel)) rfl
theorem dX12_tryLast_66 : decode cX12_tryLast 66 = .ok (.goto (-63), 3) := dk_167 (a := 255) (b := 193) (dkn dmcX12_tryLast (by decide +kernel)) rfl
theorem dX12_tryLast_69 : decode cX12_tryLast 69 = .ok (.iconst 0, 1) := dk_3 (dkn dmcX12_tryLast (by decide +kernel))
theorem dX12_tryLast_70 : decode cX12_tryLast 70 = .ok (.ireturn, 1) := dk_172 (dkn dmcX12_tryLast (by decide +kernel))
def dncX12_tryBoth : Nat := 0xac03bcffa7010284c9ffa7010384ac040500996d01b6041560041c042a0436bf00b42a1800996601b62a4f1d038f00b42a4f1c038c00b42a5401b5042a3800a2071d3e034500a21b1c3d04
theorem dmcX12_tryBoth : dkc dncX12_tryBoth 75 cX12_tryBoth.data.toList 0 = true := by decide +kernel
theorem dX12_tryBoth_0 : decode cX12_tryBoth 0 = .ok (.iconst 1, 1) := dk_4 (dkn dmcX12_tryBoth (by decide +kernel))
theorem dX12_tryBoth_1 : decode cX12_tryBoth 1 = .ok (.istore_n 2, 1) := dk_61 (dkn dmcX12_tryBoth (by decide +kernel))
theorem dX12_tryBoth_2 : decode cX12_tryBoth 2 = .ok (.iload_n 2, 1) := dk_28 (dkn dmcX12_tryBoth (by decide +kernel))
theorem dX12_tryBoth_3 : decode cX12_tryBoth 3 = .ok (.iload_n 1, 1) := dk_27 (dkn dmcX12_tryBoth (by decide +kernel))
theorem dX12_tryBoth_4 : decode cX12_tryBoth 4 = .ok (.if_icmp .ge 69, 3) := dk_162 (a := 0) (b := 69) (dkn dmcX12_tryBoth (by decide +kernel)) rfl
theorem dX12_tryBoth_7 : decode cX12_tryBoth 7 = .ok (.iconst 0, 1) := dk_3 (dkn dmcX12_tryBoth (by decide +kernel))
theorem dX12_tryBoth_8 : decode cX12_tryBoth 8 = .ok (.istore_n 3, 1) := dk_62 (dkn dmcX12_tryBoth (by decide +kernel))
theorem dX12_tryBoth_9 : decode cX12_tryBoth 9 = .ok (.iload_n 3, 1) := dk_29 (dkn dmcX12_tryBoth (by decide +kernel))
theorem dX12_tryBoth_10 : decode cX12_tryBoth 10 = .ok (.iconst 4, 1) := dk_7 (dkn dmcX12_tryBoth (by decide +kernel))
theorem dX12_tryBoth_11 : decode cX12_tryBoth 11 = .ok (.if_icmp .ge 56, 3) := dk_162 (a := 0) (b := 56) (dkn dmcX12_tryBoth (by decide +kernel)) rfl
theorem dX12_tryBoth_14 : decode cX12_tryBoth 14 = .ok (.aload_n 0, 1) := dk_42 (dkn dmcX12_tryBoth (by decide +kernel))
theorem dX12_tryBoth_15 : decode cX12_tryBoth 15 = .ok (.iconst 1, 1) := dk_4 (dkn dmcX12_tryBoth (by decide +kernel))
theorem dX12_tryBoth_16 : decode cX12_tryBoth 16 = .ok (.putfield 340, 3) := dk_181 (a := 1) (b := 84) (dkn dmcX12_tryBoth (by decide +kernel)) rfl
theorem dX12_tryBoth_19 : decode cX12_tryBoth 19 = .ok (.aload_n 0, 1) := dk_42 (dkn dmcX12_tryBoth (by decide +kernel))
theorem dX12_tryBoth_20 : decode cX12_tryBoth 20 = .ok (.getfield 140, 3) := dk_180 (a := 0) (b := 140) (dkn dmcX12_tryBoth (by decide +kernel)) rfl
theorem dX12_tryBoth_23 : decode cX12_tryBoth 23 = .ok (.iconst 0, 1) := dk_3 (dkn dmcX12_tryBoth (by decide +kernel))
theorem dX12_tryBoth_24 : decode cX12_tryBoth 24 = .ok (.iload_n 2, 1) := dk_28 (dkn dmcX12_tryBoth (by decide +kernel))
theorem dX12_tryBoth_25 : decode cX12_tryBoth 25 = .ok (.iastore, 1) := dk_79 (dkn dmcX12_tryBoth (by decide +kernel))
theorem dX12_tryBoth_26 : decode cX12_tryBoth 26 = .ok (.aload_n 0, 1) := dk_42 (dkn dmcX12_tryBoth (by decide +kernel))
theorem dX12_tryBoth_27 : decode cX12_tryBoth 27 = .ok (.getfield 143, 3) := dk_180 (a := 0) (b := 143) (dkn dmcX12_tryBoth (by decide +kernel)) rfl
theorem dX12_tryBoth_30 : decode cX12_tryBoth 30 = .ok (.iconst 0, 1) := dk_3 (dkn dmcX12_tryBoth (by decide +kernel))
theorem dX12_tryBoth_31 : decode cX12_tryBoth 31 = .ok (.iload_n 3, 1) := dk_29 (dkn dmcX12_tryBoth (by decide +kernel))
theorem dX12_tryBoth_32 : decode cX12_tryBoth 32 = .ok (.iastore, 1) := dk_79 (dkn dmcX12_tryBoth (by decide +kernel))
theorem dX12_tryBoth_33 : decode cX12_tryBoth 33 = .ok (.aload_n 0, 1) := dk_42 (dkn dmcX12_tryBoth (by decide +kernel))
theorem dX12_tryBoth_34 : decode cX12_tryBoth 34 = .ok (.invokevirtual 358, 3) := dk_182 (a := 1) (b := 102) (dkn dmcX12_tryBoth (by decide +kernel)) rfl
theorem dX12_tryBoth_37 : decode cX12_tryBoth 37 = .ok (.ifCond .eq 24, 3) := dk_153 (a := 0) (b := 24) (dkn dmcX12_tryBoth (by decide +kernel)) rfl
theorem dX12_tryBoth_40 : decode cX12_tryBoth 40 = .ok (.aload_n 0, 1) := dk_42 (dkn dmcX12_tryBoth (by decide +kernel))
theorem dX12_tryBoth_41 : decode cX12_tryBoth 41 = .ok (.getfield 191, 3) := dk_180 (a := 0) (b := 191) (dkn dmcX12_tryBoth (by decide +kernel)) rfl
theorem dX12_tryBoth_44 : decode cX12_tryBoth 44 = .ok (.istore 4, 2) := dk_54 (dkn dmcX12_tryBoth (by decide +kernel))
theorem dX12_tryBoth_46 : decode cX12_tryBoth 46 = .ok (.aload_n 0, 1) := dk_42 (dkn dmcX12_tryBoth (by decide +kernel))
theorem dX12_tryBoth_47 : decode cX12_tryBoth 47 = .ok (.iconst 1, 1) := dk_4 (dkn dmcX12_tryBoth (by decide +kernel))
theorem dX12_tryBoth_48 : decode cX12_tryBoth 48 = .ok (.iload_n 2, 1) := dk_28 (dkn dmcX12_tryBoth (by decide +kernel))
theorem dX12_tryBoth_49 : decode cX12_tryBoth 49 = .ok (.iconst 1, 1) := dk_4 (dkn dmcX12_tryBoth (by decide +kernel))
theorem dX12_tryBoth_50 : decode cX12_tryBoth 50 = .ok (.iadd, 1) := dk_96 (dkn dmcX12_tryBoth (by decide +kernel))
theorem dX12_tryBoth_51 : decode cX12_tryBoth 51 = .ok (.iload 4, 2) := dk_21 (dkn dmcX12_tryBoth (by decide +kernel))
theorem dX12_tryBoth_53 : decode cX12_tryBoth 53 = .ok (.invokevirtual 365, 3) := dk_182 (a := 1) (b := 109) (dkn dmcX12_tryBoth (by decide +kernel)) rfl
theorem dX12_tryBoth_56 : decode cX12_tryBoth 56 = .ok (.ifCond .eq 5, 3) := dk_153 (a := 0) (b := 5) (dkn dmcX12_tryBoth (by decide +kernel)) rfl
theorem dX12_tryBoth_59 : decode cX12_tryBoth 59 = .ok (.iconst 1, 1) := dk_4 (dkn dmcX12_tryBoth (by decide +kernel))
theorem dX12_tryBoth_60 : decode cX12_tryBoth 60 = .ok (.ireturn, 1) := dk_172 (dkn dmcX12_tryBoth (by decide +kernel))
theorem dX12_tryBoth_61 : decode cX12_tryBoth 61 = .ok (.iinc 3 1, 3) := dk_132 (b := 1) (dkn dmcX12_tryBoth (by decide +kernel)) rfl
theorem dX12_tryBoth_64 : decode cX12_tryBoth 64 = .ok (.goto (-55), 3) := dk_167 (a := 255) (b := 201) (dkn dmcX12_tryBoth (by decide +kernel)) rfl
theorem dX12_tryBoth_67 : decode cX12_tryBoth 67 = .ok (.iinc 2 1, 3) := dk_132 (b := 1) (dkn dmcX12_tryBoth (by decide +kernel)) rfl
theorem dX12_tryBoth_70 : decode cX12_tryBoth 70 = .ok (.goto (-68), 3) := dk_167 (a := 255) (b := 188) (dkn dmcX12_tryBoth (by decide +kernel)) rfl
theorem dX12_tryBoth_73 : decode cX12_tryBoth 73 = .ok (.iconst 0, 1) := dk_3 (dkn dmcX12_tryBoth (by decide +kernel))
theorem dX12_tryBoth_74 : decode cX12_tryBoth 74 = .ok (.ireturn, 1) := dk_172 (dkn dmcX12_tryBoth (by decide +kernel))
def dncX12_find : Nat := 0xac5a01b42a0536030400a7040700997101b604152a0c009f041b11009a05150536030400a7040700996d01b6041504032a0e00991b12009a051505366a01b62a0436bf00b42a3e6601b62a5401b5032a5a01b5032a6301b51c2a5701b5032ada00b5032aac0205009aa900b8b400140a851c0f0099a900b845011409851ba400b5032a
theorem dmcX12_find : dkc dncX12_find 131 cX12_find.data.toList 0 = true := by decide +kernel
theorem dX12_find_0 : decode cX12_find 0 = .ok (.aload_n 0, 1) := dk_42 (dkn dmcX12_find (by decide +kernel))
theorem dX12_find_1 : decode cX12_find 1 = .ok (.iconst 0, 1) := dk_3 (dkn dmcX12_find (by decide +kernel))
theorem dX12_find_2 : decode cX12_find 2 = .ok (.putfield 164, 3) := dk_181 (a := 0) (b := 164) (dkn dmcX12_find (by decide +kernel)) rfl
theorem dX12_find_5 : decode cX12_find 5 = .ok (.iload_n 1, 1) := dk_27 (dkn dmcX12_find (by decide +kernel))
theorem dX12_find_6 : decode cX12_find 6 = .ok (.i2l, 1) := dk_133 (dkn dmcX12_find (by decide +kernel))
theorem dX12_find_7 : decode cX12_find 7 = .ok (.lconst 0, 1) := dk_9 (dkn dmcX12_find (by decide +kernel))
theorem dX12_find_8 : decode cX12_find 8 = .ok (.ldc2_w 325, 3) := dk_20 (a := 1) (b := 69) (dkn dmcX12_find (by decide +kernel)) rfl
theorem dX12_find_11 : decode cX12_find 11 = .ok (.invokestatic 169, 3) := dk_184 (a := 0) (b := 169) (dkn dmcX12_find (by decide +kernel)) rfl
theorem dX12_find_14 : decode cX12_find 14 = .ok (.ifCond .eq 15, 3) := dk_153 (a := 0) (b := 15) (dkn dmcX12_find (by decide +kernel)) rfl
theorem dX12_find_17 : decode cX12_find 17 = .ok (.iload_n 2, 1) := dk_28 (dkn dmcX12_find (by decide +kernel))
theorem dX12_find_18 : decode cX12_find 18 = .ok (.i2l, 1) := dk_133 (dkn dmcX12_find (by decide +kernel))
theorem dX12_find_19 : decode cX12_find 19 = .ok (.lconst 1, 1) := dk_10 (dkn dmcX12_find (by decide +kernel))
theorem dX12_find_20 : decode cX12_find 20 = .ok (.ldc2_w 180, 3) := dk_20 (a := 0) (b := 180) (dkn dmcX12_find (by decide +kernel)) rfl
theorem dX12_find_23 : decode cX12_find 23 = .ok (.invokestatic 169, 3) := dk_184 (a := 0) (b := 169) (dkn dmcX12_find (by decide +kernel)) rfl
theorem dX12_find_26 : decode cX12_find 26 = .ok (.ifCond .ne 5, 3) := dk_154 (a := 0) (b := 5) (dkn dmcX12_find (by decide +kernel)) rfl
theorem dX12_find_29 : decode cX12_find 29 = .ok (.iconst (-1), 1) := dk_2 (dkn dmcX12_find (by decide +kernel))
theorem dX12_find_30 : decode cX12_find 30 = .ok (.ireturn, 1) := dk_172 (dkn dmcX12_find (by decide +kernel))
theorem dX12_find_31 : decode cX12_find 31 = .ok (.aload_n 0, 1) := dk_42 (dkn dmcX12_find (by decide +kernel))
theorem dX12_find_32 : decode cX12_find 32 = .ok (.iconst 0, 1) := dk_3 (dkn dmcX12_find (by decide +kernel))
theorem dX12_find_33 : decode cX12_find 33 = .ok (.putfield 218, 3) := dk_181 (a := 0) (b := 218) (dkn dmcX12_find (by decide +kernel)) rfl
theorem dX12_find_36 : decode cX12_find 36 = .ok (.aload_n 0, 1) := dk_42 (dkn dmcX12_find (by decide +kernel))
theorem dX12_find_37 : decode cX12_find 37 = .ok (.iconst 0, 1) := dk_3 (dkn dmcX12_find (by decide +kernel))
theorem dX12_find_38 : decode cX12_find 38 = .ok (.putfield 343, 3) := dk_181 (a := 1) (b := 87) (dkn dmcX12_find (by decide +kernel)) rfl
theorem dX12_find_41 : decode cX12_find 41 = .ok (.aload_n 0, 1) := dk_42 (dkn dmcX12_find (by decide +kernel))
theorem dX12_find_42 : decode cX12_find 42 = .ok (.iload_n 2, 1) := dk_28 (dkn dmcX12_find (by decide +kernel))
theorem dX12_find_43 : decode cX12_find 43 = .ok (.putfield 355, 3) := dk_181 (a := 1) (b := 99) (dkn dmcX12_find (by decide +kernel)) rfl
theorem dX12_find_46 : decode cX12_find 46 = .ok (.aload_n 0, 1) := dk_42 (dkn dmcX12_find (by decide +kernel))
theorem dX12_find_47 : decode cX12_find 47 = .ok (.iconst 0, 1) := dk_3 (dkn dmcX12_find (by decide +kernel))
theorem dX12_find_48 : decode cX12_find 48 = .ok (.putfield 346, 3) := dk_181 (a := 1) (b := 90) (dkn dmcX12_find (by decide +kernel)) rfl
theorem dX12_find_51 : decode cX12_find 51 = .ok (.aload_n 0, 1) := dk_42 (dkn dmcX12_find (by decide +kernel))
theorem dX12_find_52 : decode cX12_find 52 = .ok (.iconst 0, 1) := dk_3 (dkn dmcX12_find (by decide +kernel))
theorem dX12_find_53 : decode cX12_find 53 = .ok (.putfield 340, 3) := dk_181 (a := 1) (b := 84) (dkn dmcX12_find (by decide +kernel)) rfl
theorem dX12_find_56 : decode cX12_find 56 = .ok (.aload_n 0, 1) := dk_42 (dkn dmcX12_find (by decide +kernel))
theorem dX12_find_57 : decode cX12_find 57 = .ok (.invokevirtual 358, 3) := dk_182 (a := 1) (b := 102) (dkn dmcX12_find (by decide +kernel)) rfl
theorem dX12_find_60 : decode cX12_find 60 = .ok (.istore_n 3, 1) := dk_62 (dkn dmcX12_find (by decide +kernel))
theorem dX12_find_61 : decode cX12_find 61 = .ok (.aload_n 0, 1) := dk_42 (dkn dmcX12_find (by decide +kernel))
theorem dX12_find_62 : decode cX12_find 62 = .ok (.getfield 191, 3) := dk_180 (a := 0) (b := 191) (dkn dmcX12_find (by decide +kernel)) rfl
theorem dX12_find_65 : decode cX12_find 65 = .ok (.istore 4, 2) := dk_54 (dkn dmcX12_find (by decide +kernel))
theorem dX12_find_67 : decode cX12_find 67 = .ok (.aload_n 0, 1) := dk_42 (dkn dmcX12_find (by decide +kernel))
theorem dX12_find_68 : decode cX12_find 68 = .ok (.invokevirtual 362, 3) := dk_182 (a := 1) (b := 106) (dkn dmcX12_find (by decide +kernel)) rfl
theorem dX12_find_71 : decode cX12_find 71 = .ok (.istore 5, 2) := dk_54 (dkn dmcX12_find (by decide +kernel))
theorem dX12_find_73 : decode cX12_find 73 = .ok (.iload 5, 2) := dk_21 (dkn dmcX12_find (by decide +kernel))
theorem dX12_find_75 : decode cX12_find 75 = .ok (.ifCond .ne 18, 3) := dk_154 (a := 0) (b := 18) (dkn dmcX12_find (by decide +kernel)) rfl
theorem dX12_find_78 : decode cX12_find 78 = .ok (.iload_n 1, 1) := dk_27 (dkn dmcX12_find (by decide +kernel))
theorem dX12_find_79 : decode cX12_find 79 = .ok (.ifCond .eq 14, 3) := dk_153 (a := 0) (b := 14) (dkn dmcX12_find (by decide +kernel)) rfl
theorem dX12_find_82 : decode cX12_find 82 = .ok (.aload_n 0, 1) := dk_42 (dkn dmcX12_find (by decide +kernel))
theorem dX12_find_83 : decode cX12_find 83 = .ok (.iconst 0, 1) := dk_3 (dkn dmcX12_find (by decide +kernel))
theorem dX12_find_84 : decode cX12_find 84 = .ok (.iconst 1, 1) := dk_4 (dkn dmcX12_find (by decide +kernel))
theorem dX12_find_85 : decode cX12_find 85 = .ok (.iload 4, 2) := dk_21 (dkn dmcX12_find (by decide +kernel))
theorem dX12_find_87 : decode cX12_find 87 = .ok (.invokevirtual 365, 3) := dk_182 (a := 1) (b := 109) (dkn dmcX12_find (by decide +kernel)) rfl
theorem dX12_find_90 : decode cX12_find 90 = .ok (.ifCond .eq 7, 3) := dk_153 (a := 0) (b := 7) (dkn dmcX12_find (by decide +kernel)) rfl
theorem dX12_find_93 : decode cX12_find 93 = .ok (.iconst 1, 1) := dk_4 (dkn dmcX12_find (by decide +kernel))
theorem dX12_find_94 : decode cX12_find 94 = .ok (.goto 4, 3) := dk_167 (a := 0) (b := 4) (dkn dmcX12_find (by decide +kernel)) rfl
theorem dX12_find_97 : decode cX12_find 97 = .ok (.iconst 0, 1) := dk_3 (dkn dmcX12_find (by decide +kernel))
theorem dX12_find_98 : decode cX12_find 98 = .ok (.istore 5, 2) := dk_54 (dkn dmcX12_find (by decide +kernel))
theorem dX12_find_100 : decode cX12_find 100 = .ok (.iload 5, 2) := dk_21 (dkn dmcX12_find (by decide +kernel))
theorem dX12_find_102 : decode cX12_find 102 = .ok (.ifCond .ne 17, 3) := dk_154 (a := 0) (b := 17) (dkn dmcX12_find (by decide +kernel)) rfl
theorem dX12_find_105 : decode cX12_find 105 = .ok (.iload_n 1, 1) := dk_27 (dkn dmcX12_find (by decide +kernel))
theorem dX12_find_106 : decode cX12_find 106 = .ok (.iconst 1, 1) := dk_4 (dkn dmcX12_find (by decide +kernel))
theorem dX12_find_107 : decode cX12_find 107 = .ok (.if_icmp .eq 12, 3) := dk_159 (a := 0) (b := 12) (dkn dmcX12_find (by decide +kernel)) rfl
theorem dX12_find_110 : decode cX12_find 110 = .ok (.aload_n 0, 1) := dk_42 (dkn dmcX12_find (by decide +kernel))
theorem dX12_find_111 : decode cX12_find 111 = .ok (.iload 4, 2) := dk_21 (dkn dmcX12_find (by decide +kernel))
theorem dX12_find_113 : decode cX12_find 113 = .ok (.invokevirtual 369, 3) := dk_182 (a := 1) (b := 113) (dkn dmcX12_find (by decide +kernel)) rfl
theorem dX12_find_116 : decode cX12_find 116 = .ok (.ifCond .eq 7, 3) := dk_153 (a := 0) (b := 7) (dkn dmcX12_find (by decide +kernel)) rfl
theorem dX12_find_119 : decode cX12_find 119 = .ok (.iconst 1, 1) := dk_4 (dkn dmcX12_find (by decide +kernel))
theorem dX12_find_120 : decode cX12_find 120 = .ok (.goto 4, 3) := dk_167 (a := 0) (b := 4) (dkn dmcX12_find (by decide +kernel)) rfl
theorem dX12_find_123 : decode cX12_find 123 = .ok (.iconst 0, 1) := dk_3 (dkn dmcX12_find (by decide +kernel))
theorem dX12_find_124 : decode cX12_find 124 = .ok (.istore 5, 2) := dk_54 (dkn dmcX12_find (by decide +kernel))
theorem dX12_find_126 : decode cX12_find 126 = .ok (.aload_n 0, 1) := dk_42 (dkn dmcX12_find (by decide +kernel))
theorem dX12_find_127 : decode cX12_find 127 = .ok (.getfield 346, 3) := dk_180 (a := 1) (b := 90) (dkn dmcX12_find (by decide +kernel)) rfl
theorem dX12_find_130 : decode cX12_find 130 = .ok (.ireturn, 1) := dk_172 (dkn dmcX12_find (by decide +kernel))
def dncX12_found : Nat := 0xac2e1c8900b42a0900a72e1c8600b42a0c00a00470051b1900a7fe100800a15d01b42a1c3d040400a7030700a2061bac6001b42a0700a75d01b42a0a009a1b1300a0081b0800991bacfe1006009a5a01b42aac5701b42a0800a006101bac0205009aa900b874011409851ba400b5032a
theorem dmcX12_found : dkc dncX12_found 112 cX12_found.data.toList 0 = true := by decide +kernel
theorem dX12_found_0 : decode cX12_found 0 = .ok (.aload_n 0, 1) := dk_42 (dkn dmcX12_found (by decide +kernel))
theorem dX12_found_1 : decode cX12_found 1 = .ok (.iconst 0, 1) := dk_3 (dkn dmcX12_found (by decide +kernel))
theorem dX12_found_2 : decode cX12_found 2 = .ok (.putfield 164, 3) := dk_181 (a := 0) (b := 164) (dkn dmcX12_found (by decide +kernel)) rfl
theorem dX12_found_5 : decode cX12_found 5 = .ok (.iload_n 1, 1) := dk_27 (dkn dmcX12_found (by decide +kernel))
theorem dX12_found_6 : decode cX12_found 6 = .ok (.i2l, 1) := dk_133 (dkn dmcX12_found (by decide +kernel))
theorem dX12_found_7 : decode cX12_found 7 = .ok (.lconst 0, 1) := dk_9 (dkn dmcX12_found (by decide +kernel))
theorem dX12_found_8 : decode cX12_found 8 = .ok (.ldc2_w 372, 3) := dk_20 (a := 1) (b := 116) (dkn dmcX12_found (by decide +kernel)) rfl
theorem dX12_found_11 : decode cX12_found 11 = .ok (.invokestatic 169, 3) := dk_184 (a := 0) (b := 169) (dkn dmcX12_found (by decide +kernel)) rfl
theorem dX12_found_14 : decode cX12_found 14 = .ok (.ifCond .ne 5, 3) := dk_154 (a := 0) (b := 5) (dkn dmcX12_found (by decide +kernel)) rfl
theorem dX12_found_17 : decode cX12_found 17 = .ok (.iconst (-1), 1) := dk_2 (dkn dmcX12_found (by decide +kernel))
theorem dX12_found_18 : decode cX12_found 18 = .ok (.ireturn, 1) := dk_172 (dkn dmcX12_found (by decide +kernel))
theorem dX12_found_19 : decode cX12_found 19 = .ok (.iload_n 1, 1) := dk_27 (dkn dmcX12_found (by decide +kernel))
theorem dX12_found_20 : decode cX12_found 20 = .ok (.bipush 6, 2) := dk_16 (a := 6) (dkn dmcX12_found (by decide +kernel)) rfl
theorem dX12_found_22 : decode cX12_found 22 = .ok (.if_icmp .ne 8, 3) := dk_160 (a := 0) (b := 8) (dkn dmcX12_found (by decide +kernel)) rfl
theorem dX12_found_25 : decode cX12_found 25 = .ok (.aload_n 0, 1) := dk_42 (dkn dmcX12_found (by decide +kernel))
theorem dX12_found_26 : decode cX12_found 26 = .ok (.getfield 343, 3) := dk_180 (a := 1) (b := 87) (dkn dmcX12_found (by decide +kernel)) rfl
theorem dX12_found_29 : decode cX12_found 29 = .ok (.ireturn, 1) := dk_172 (dkn dmcX12_found (by decide +kernel))
theorem dX12_found_30 : decode cX12_found 30 = .ok (.aload_n 0, 1) := dk_42 (dkn dmcX12_found (by decide +kernel))
theorem dX12_found_31 : decode cX12_found 31 = .ok (.getfield 346, 3) := dk_180 (a := 1) (b := 90) (dkn dmcX12_found (by decide +kernel)) rfl
theorem dX12_found_34 : decode cX12_found 34 = .ok (.ifCond .ne 6, 3) := dk_154 (a := 0) (b := 6) (dkn dmcX12_found (by decide +kernel)) rfl
theorem dX12_found_37 : decode cX12_found 37 = .ok (.bipush (-2), 2) := dk_16 (a := 254) (dkn dmcX12_found (by decide +kernel)) rfl
theorem dX12_found_39 : decode cX12_found 39 = .ok (.ireturn, 1) := dk_172 (dkn dmcX12_found (by decide +kernel))
theorem dX12_found_40 : decode cX12_found 40 = .ok (.iload_n 1, 1) := dk_27 (dkn dmcX12_found (by decide +kernel))
theorem dX12_found_41 : decode cX12_found 41 = .ok (.ifCond .eq 8, 3) := dk_153 (a := 0) (b := 8) (dkn dmcX12_found (by decide +kernel)) rfl
theorem dX12_found_44 : decode cX12_found 44 = .ok (.iload_n 1, 1) := dk_27 (dkn dmcX12_found (by decide +kernel))
theorem dX12_found_45 : decode cX12_found 45 = .ok (.iconst 5, 1) := dk_8 (dkn dmcX12_found (by decide +kernel))
theorem dX12_found_46 : decode cX12_found 46 = .ok (.if_icmp .ne 19, 3) := dk_160 (a := 0) (b := 19) (dkn dmcX12_found (by decide +kernel)) rfl
theorem dX12_found_49 : decode cX12_found 49 = .ok (.iload_n 1, 1) := dk_27 (dkn dmcX12_found (by decide +kernel))
theorem dX12_found_50 : decode cX12_found 50 = .ok (.ifCond .ne 10, 3) := dk_154 (a := 0) (b := 10) (dkn dmcX12_found (by decide +kernel)) rfl
theorem dX12_found_53 : decode cX12_found 53 = .ok (.aload_n 0, 1) := dk_42 (dkn dmcX12_found (by decide +kernel))
theorem dX12_found_54 : decode cX12_found 54 = .ok (.getfield 349, 3) := dk_180 (a := 1) (b := 93) (dkn dmcX12_found (by decide +kernel)) rfl
theorem dX12_found_57 : decode cX12_found 57 = .ok (.goto 7, 3) := dk_167 (a := 0) (b := 7) (dkn dmcX12_found (by decide +kernel)) rfl
theorem dX12_found_60 : decode cX12_found 60 = .ok (.aload_n 0, 1) := dk_42 (dkn dmcX12_found (by decide +kernel))
theorem dX12_found_61 : decode cX12_found 61 = .ok (.getfield 352, 3) := dk_180 (a := 1) (b := 96) (dkn dmcX12_found (by decide +kernel)) rfl
theorem dX12_found_64 : decode cX12_found 64 = .ok (.ireturn, 1) := dk_172 (dkn dmcX12_found (by decide +kernel))
theorem dX12_found_65 : decode cX12_found 65 = .ok (.iload_n 1, 1) := dk_27 (dkn dmcX12_found (by decide +kernel))
theorem dX12_found_66 : decode cX12_found 66 = .ok (.iconst 3, 1) := dk_6 (dkn dmcX12_found (by decide +kernel))
theorem dX12_found_67 : decode cX12_found 67 = .ok (.if_icmp .ge 7, 3) := dk_162 (a := 0) (b := 7) (dkn dmcX12_found (by decide +kernel)) rfl
theorem dX12_found_70 : decode cX12_found 70 = .ok (.iconst 0, 1) := dk_3 (dkn dmcX12_found (by decide +kernel))
theorem dX12_found_71 : decode cX12_found 71 = .ok (.goto 4, 3) := dk_167 (a := 0) (b := 4) (dkn dmcX12_found (by decide +kernel)) rfl
theorem dX12_found_74 : decode cX12_found 74 = .ok (.iconst 1, 1) := dk_4 (dkn dmcX12_found (by decide +kernel))
theorem dX12_found_75 : decode cX12_found 75 = .ok (.istore_n 2, 1) := dk_61 (dkn dmcX12_found (by decide +kernel))
theorem dX12_found_76 : decode cX12_found 76 = .ok (.iload_n 2, 1) := dk_28 (dkn dmcX12_found (by decide +kernel))
theorem dX12_found_77 : decode cX12_found 77 = .ok (.aload_n 0, 1) := dk_42 (dkn dmcX12_found (by decide +kernel))
theorem dX12_found_78 : decode cX12_found 78 = .ok (.getfield 349, 3) := dk_180 (a := 1) (b := 93) (dkn dmcX12_found (by decide +kernel)) rfl
theorem dX12_found_81 : decode cX12_found 81 = .ok (.if_icmp .lt 8, 3) := dk_161 (a := 0) (b := 8) (dkn dmcX12_found (by decide +kernel)) rfl
theorem dX12_found_84 : decode cX12_found 84 = .ok (.bipush (-2), 2) := dk_16 (a := 254) (dkn dmcX12_found (by decide +kernel)) rfl
theorem dX12_found_86 : decode cX12_found 86 = .ok (.goto 25, 3) := dk_167 (a := 0) (b := 25) (dkn dmcX12_found (by decide +kernel)) rfl
theorem dX12_found_89 : decode cX12_found 89 = .ok (.iload_n 1, 1) := dk_27 (dkn dmcX12_found (by decide +kernel))
theorem dX12_found_90 : decode cX12_found 90 = .ok (.iconst 2, 1) := dk_5 (dkn dmcX12_found (by decide +kernel))
theorem dX12_found_91 : decode cX12_found 91 = .ok (.irem, 1) := dk_112 (dkn dmcX12_found (by decide +kernel))
theorem dX12_found_92 : decode cX12_found 92 = .ok (.iconst 1, 1) := dk_4 (dkn dmcX12_found (by decide +kernel))
theorem dX12_found_93 : decode cX12_found 93 = .ok (.if_icmp .ne 12, 3) := dk_160 (a := 0) (b := 12) (dkn dmcX12_found (by decide +kernel)) rfl
theorem dX12_found_96 : decode cX12_found 96 = .ok (.aload_n 0, 1) := dk_42 (dkn dmcX12_found (by decide +kernel))
theorem dX12_found_97 : decode cX12_found 97 = .ok (.getfield 134, 3) := dk_180 (a := 0) (b := 134) (dkn dmcX12_found (by decide +kernel)) rfl
theorem dX12_found_100 : decode cX12_found 100 = .ok (.iload_n 2, 1) := dk_28 (dkn dmcX12_found (by decide +kernel))
theorem dX12_found_101 : decode cX12_found 101 = .ok (.iaload, 1) := dk_46 (dkn dmcX12_found (by decide +kernel))
theorem dX12_found_102 : decode cX12_found 102 = .ok (.goto 9, 3) := dk_167 (a := 0) (b := 9) (dkn dmcX12_found (by decide +kernel)) rfl
theorem dX12_found_105 : decode cX12_found 105 = .ok (.aload_n 0, 1) := dk_42 (dkn dmcX12_found (by decide +kernel))
theorem dX12_found_106 : decode cX12_found 106 = .ok (.getfield 137, 3) := dk_180 (a := 0) (b := 137) (dkn dmcX12_found (by decide +kernel)) rfl
theorem dX12_found_109 : decode cX12_found 109 = .ok (.iload_n 2, 1) := dk_28 (dkn dmcX12_found (by decide +kernel))
theorem dX12_found_110 : decode cX12_found 110 = .ok (.iaload, 1) := dk_46 (dkn dmcX12_found (by decide +kernel))
theorem dX12_found_111 : decode cX12_found 111 = .ok (.ireturn, 1) := dk_172 (dkn dmcX12_found (by decide +kernel))
theorem dX12_isShelf_0 : decode cX12_isShelf 0 = .ok (.iload_n 0, 1) := dk_26 (by decide +kernel)
theorem dX12_isShelf_1 : decode cX12_isShelf 1 = .ok (.ifCond .lt 13, 3) := dk_155 (a := 0) (b := 13) (by decide +kernel) rfl
theorem dX12_isShelf_4 : decode cX12_isShelf 4 = .ok (.iload_n 0, 1) := dk_26 (by decide +kernel)
theorem dX12_isShelf_5 : decode cX12_isShelf 5 = .ok (.bipush 8, 2) := dk_16 (a := 8) (by decide +kernel) rfl
theorem dX12_isShelf_7 : decode cX12_isShelf 7 = .ok (.if_icmp .ge 7, 3) := dk_162 (a := 0) (b := 7) (by decide +kernel) rfl
theorem dX12_isShelf_10 : decode cX12_isShelf 10 = .ok (.iconst 1, 1) := dk_4 (by decide +kernel)
theorem dX12_isShelf_11 : decode cX12_isShelf 11 = .ok (.goto 4, 3) := dk_167 (a := 0) (b := 4) (by decide +kernel) rfl
theorem dX12_isShelf_14 : decode cX12_isShelf 14 = .ok (.iconst 0, 1) := dk_3 (by decide +kernel)
theorem dX12_isShelf_15 : decode cX12_isShelf 15 = .ok (.ireturn, 1) := dk_172 (by decide +kernel)
def dncX12_keep_ : Nat := 0xac03b4ffa70104844f030400a72e05154700b42a0d009a2e05154400b42a1800a72e600404156000b42a0f00a0051c600415681b3c109e00b42a0536600415683001b42a1c104700a22e1b9500b42a04150436034f3c100500a73001b42a0a00a23c103001b42a1500a70c100800a0061c1b9500b42a7700a4041c7c00a74f2e601d683001b42a0c105900b42a1b9500b42a4f2e601d683001b42a0c105300b42a1b9b00b42a4f1d1b9800b42a3500a0041c4f031b9500b42a4f1c1b9200b42aac0205009aa900b88564042e3001b42a5000b42a09851d1a00a0041c1d00992601b42a0a009e1c280099a900b8a7001409851c3400997601b81ba400b5032a
theorem dmcX12_keep_ : dkc dncX12_keep_ 255 cX12_keep_.data.toList 0 = true := by decide +kernel
theorem dX12_keep__0 : decode cX12_keep_ 0 = .ok (.aload_n 0, 1) := dk_42 (dkn dmcX12_keep_ (by decide +kernel))
theorem dX12_keep__1 : decode cX12_keep_ 1 = .ok (.iconst 0, 1) := dk_3 (dkn dmcX12_keep_ (by decide +kernel))
theorem dX12_keep__2 : decode cX12_keep_ 2 = .ok (.putfield 164, 3) := dk_181 (a := 0) (b := 164) (dkn dmcX12_keep_ (by decide +kernel)) rfl
theorem dX12_keep__5 : decode cX12_keep_ 5 = .ok (.iload_n 1, 1) := dk_27 (dkn dmcX12_keep_ (by decide +kernel))
theorem dX12_keep__6 : decode cX12_keep_ 6 = .ok (.invokestatic 374, 3) := dk_184 (a := 1) (b := 118) (dkn dmcX12_keep_ (by decide +kernel)) rfl
theorem dX12_keep__9 : decode cX12_keep_ 9 = .ok (.ifCond .eq 52, 3) := dk_153 (a := 0) (b := 52) (dkn dmcX12_keep_ (by decide +kernel)) rfl
theorem dX12_keep__12 : decode cX12_keep_ 12 = .ok (.iload_n 2, 1) := dk_28 (dkn dmcX12_keep_ (by decide +kernel))
theorem dX12_keep__13 : decode cX12_keep_ 13 = .ok (.i2l, 1) := dk_133 (dkn dmcX12_keep_ (by decide +kernel))
theorem dX12_keep__14 : decode cX12_keep_ 14 = .ok (.lconst 0, 1) := dk_9 (dkn dmcX12_keep_ (by decide +kernel))
theorem dX12_keep__15 : decode cX12_keep_ 15 = .ok (.ldc2_w 167, 3) := dk_20 (a := 0) (b := 167) (dkn dmcX12_keep_ (by decide +kernel)) rfl
theorem dX12_keep__18 : decode cX12_keep_ 18 = .ok (.invokestatic 169, 3) := dk_184 (a := 0) (b := 169) (dkn dmcX12_keep_ (by decide +kernel)) rfl
theorem dX12_keep__21 : decode cX12_keep_ 21 = .ok (.ifCond .eq 40, 3) := dk_153 (a := 0) (b := 40) (dkn dmcX12_keep_ (by decide +kernel)) rfl
theorem dX12_keep__24 : decode cX12_keep_ 24 = .ok (.iload_n 2, 1) := dk_28 (dkn dmcX12_keep_ (by decide +kernel))
theorem dX12_keep__25 : decode cX12_keep_ 25 = .ok (.ifCond .le 10, 3) := dk_158 (a := 0) (b := 10) (dkn dmcX12_keep_ (by decide +kernel)) rfl
theorem dX12_keep__28 : decode cX12_keep_ 28 = .ok (.aload_n 0, 1) := dk_42 (dkn dmcX12_keep_ (by decide +kernel))
theorem dX12_keep__29 : decode cX12_keep_ 29 = .ok (.getfield 294, 3) := dk_180 (a := 1) (b := 38) (dkn dmcX12_keep_ (by decide +kernel)) rfl
theorem dX12_keep__32 : decode cX12_keep_ 32 = .ok (.ifCond .eq 29, 3) := dk_153 (a := 0) (b := 29) (dkn dmcX12_keep_ (by decide +kernel)) rfl
theorem dX12_keep__35 : decode cX12_keep_ 35 = .ok (.iload_n 2, 1) := dk_28 (dkn dmcX12_keep_ (by decide +kernel))
theorem dX12_keep__36 : decode cX12_keep_ 36 = .ok (.iconst 1, 1) := dk_4 (dkn dmcX12_keep_ (by decide +kernel))
theorem dX12_keep__37 : decode cX12_keep_ 37 = .ok (.if_icmp .ne 26, 3) := dk_160 (a := 0) (b := 26) (dkn dmcX12_keep_ (by decide +kernel)) rfl
theorem dX12_keep__40 : decode cX12_keep_ 40 = .ok (.iload_n 3, 1) := dk_29 (dkn dmcX12_keep_ (by decide +kernel))
theorem dX12_keep__41 : decode cX12_keep_ 41 = .ok (.i2l, 1) := dk_133 (dkn dmcX12_keep_ (by decide +kernel))
theorem dX12_keep__42 : decode cX12_keep_ 42 = .ok (.lconst 0, 1) := dk_9 (dkn dmcX12_keep_ (by decide +kernel))
theorem dX12_keep__43 : decode cX12_keep_ 43 = .ok (.aload_n 0, 1) := dk_42 (dkn dmcX12_keep_ (by decide +kernel))
theorem dX12_keep__44 : decode cX12_keep_ 44 = .ok (.getfield 80, 3) := dk_180 (a := 0) (b := 80) (dkn dmcX12_keep_ (by decide +kernel)) rfl
theorem dX12_keep__47 : decode cX12_keep_ 47 = .ok (.aload_n 0, 1) := dk_42 (dkn dmcX12_keep_ (by decide +kernel))
theorem dX12_keep__48 : decode cX12_keep_ 48 = .ok (.getfield 304, 3) := dk_180 (a := 1) (b := 48) (dkn dmcX12_keep_ (by decide +kernel)) rfl
theorem dX12_keep__51 : decode cX12_keep_ 51 = .ok (.iaload, 1) := dk_46 (dkn dmcX12_keep_ (by decide +kernel))
theorem dX12_keep__52 : decode cX12_keep_ 52 = .ok (.iconst 1, 1) := dk_4 (dkn dmcX12_keep_ (by decide +kernel))
theorem dX12_keep__53 : decode cX12_keep_ 53 = .ok (.isub, 1) := dk_100 (dkn dmcX12_keep_ (by decide +kernel))
theorem dX12_keep__54 : decode cX12_keep_ 54 = .ok (.i2l, 1) := dk_133 (dkn dmcX12_keep_ (by decide +kernel))
theorem dX12_keep__55 : decode cX12_keep_ 55 = .ok (.invokestatic 169, 3) := dk_184 (a := 0) (b := 169) (dkn dmcX12_keep_ (by decide +kernel)) rfl
theorem dX12_keep__58 : decode cX12_keep_ 58 = .ok (.ifCond .ne 5, 3) := dk_154 (a := 0) (b := 5) (dkn dmcX12_keep_ (by decide +kernel)) rfl
theorem dX12_keep__61 : decode cX12_keep_ 61 = .ok (.iconst (-1), 1) := dk_2 (dkn dmcX12_keep_ (by decide +kernel))
theorem dX12_keep__62 : decode cX12_keep_ 62 = .ok (.ireturn, 1) := dk_172 (dkn dmcX12_keep_ (by decide +kernel))
theorem dX12_keep__63 : decode cX12_keep_ 63 = .ok (.aload_n 0, 1) := dk_42 (dkn dmcX12_keep_ (by decide +kernel))
theorem dX12_keep__64 : decode cX12_keep_ 64 = .ok (.getfield 146, 3) := dk_180 (a := 0) (b := 146) (dkn dmcX12_keep_ (by decide +kernel)) rfl
theorem dX12_keep__67 : decode cX12_keep_ 67 = .ok (.iload_n 1, 1) := dk_27 (dkn dmcX12_keep_ (by decide +kernel))
theorem dX12_keep__68 : decode cX12_keep_ 68 = .ok (.iload_n 2, 1) := dk_28 (dkn dmcX12_keep_ (by decide +kernel))
theorem dX12_keep__69 : decode cX12_keep_ 69 = .ok (.iastore, 1) := dk_79 (dkn dmcX12_keep_ (by decide +kernel))
theorem dX12_keep__70 : decode cX12_keep_ 70 = .ok (.aload_n 0, 1) := dk_42 (dkn dmcX12_keep_ (by decide +kernel))
theorem dX12_keep__71 : decode cX12_keep_ 71 = .ok (.getfield 149, 3) := dk_180 (a := 0) (b := 149) (dkn dmcX12_keep_ (by decide +kernel)) rfl
theorem dX12_keep__74 : decode cX12_keep_ 74 = .ok (.iload_n 1, 1) := dk_27 (dkn dmcX12_keep_ (by decide +kernel))
theorem dX12_keep__75 : decode cX12_keep_ 75 = .ok (.iconst 0, 1) := dk_3 (dkn dmcX12_keep_ (by decide +kernel))
theorem dX12_keep__76 : decode cX12_keep_ 76 = .ok (.iastore, 1) := dk_79 (dkn dmcX12_keep_ (by decide +kernel))
theorem dX12_keep__77 : decode cX12_keep_ 77 = .ok (.iload_n 2, 1) := dk_28 (dkn dmcX12_keep_ (by decide +kernel))
theorem dX12_keep__78 : decode cX12_keep_ 78 = .ok (.iconst 1, 1) := dk_4 (dkn dmcX12_keep_ (by decide +kernel))
theorem dX12_keep__79 : decode cX12_keep_ 79 = .ok (.if_icmp .ne 53, 3) := dk_160 (a := 0) (b := 53) (dkn dmcX12_keep_ (by decide +kernel)) rfl
theorem dX12_keep__82 : decode cX12_keep_ 82 = .ok (.aload_n 0, 1) := dk_42 (dkn dmcX12_keep_ (by decide +kernel))
theorem dX12_keep__83 : decode cX12_keep_ 83 = .ok (.getfield 152, 3) := dk_180 (a := 0) (b := 152) (dkn dmcX12_keep_ (by decide +kernel)) rfl
theorem dX12_keep__86 : decode cX12_keep_ 86 = .ok (.iload_n 1, 1) := dk_27 (dkn dmcX12_keep_ (by decide +kernel))
theorem dX12_keep__87 : decode cX12_keep_ 87 = .ok (.iload_n 3, 1) := dk_29 (dkn dmcX12_keep_ (by decide +kernel))
theorem dX12_keep__88 : decode cX12_keep_ 88 = .ok (.iastore, 1) := dk_79 (dkn dmcX12_keep_ (by decide +kernel))
theorem dX12_keep__89 : decode cX12_keep_ 89 = .ok (.aload_n 0, 1) := dk_42 (dkn dmcX12_keep_ (by decide +kernel))
theorem dX12_keep__90 : decode cX12_keep_ 90 = .ok (.getfield 155, 3) := dk_180 (a := 0) (b := 155) (dkn dmcX12_keep_ (by decide +kernel)) rfl
theorem dX12_keep__93 : decode cX12_keep_ 93 = .ok (.iload_n 1, 1) := dk_27 (dkn dmcX12_keep_ (by decide +kernel))
theorem dX12_keep__94 : decode cX12_keep_ 94 = .ok (.aload_n 0, 1) := dk_42 (dkn dmcX12_keep_ (by decide +kernel))
theorem dX12_keep__95 : decode cX12_keep_ 95 = .ok (.getfield 83, 3) := dk_180 (a := 0) (b := 83) (dkn dmcX12_keep_ (by decide +kernel)) rfl
theorem dX12_keep__98 : decode cX12_keep_ 98 = .ok (.bipush 12, 2) := dk_16 (a := 12) (dkn dmcX12_keep_ (by decide +kernel)) rfl
theorem dX12_keep__100 : decode cX12_keep_ 100 = .ok (.aload_n 0, 1) := dk_42 (dkn dmcX12_keep_ (by decide +kernel))
theorem dX12_keep__101 : decode cX12_keep_ 101 = .ok (.getfield 304, 3) := dk_180 (a := 1) (b := 48) (dkn dmcX12_keep_ (by decide +kernel)) rfl
theorem dX12_keep__104 : decode cX12_keep_ 104 = .ok (.imul, 1) := dk_104 (dkn dmcX12_keep_ (by decide +kernel))
theorem dX12_keep__105 : decode cX12_keep_ 105 = .ok (.iload_n 3, 1) := dk_29 (dkn dmcX12_keep_ (by decide +kernel))
theorem dX12_keep__106 : decode cX12_keep_ 106 = .ok (.iadd, 1) := dk_96 (dkn dmcX12_keep_ (by decide +kernel))
theorem dX12_keep__107 : decode cX12_keep_ 107 = .ok (.iaload, 1) := dk_46 (dkn dmcX12_keep_ (by decide +kernel))
theorem dX12_keep__108 : decode cX12_keep_ 108 = .ok (.iastore, 1) := dk_79 (dkn dmcX12_keep_ (by decide +kernel))
theorem dX12_keep__109 : decode cX12_keep_ 109 = .ok (.aload_n 0, 1) := dk_42 (dkn dmcX12_keep_ (by decide +kernel))
theorem dX12_keep__110 : decode cX12_keep_ 110 = .ok (.getfield 149, 3) := dk_180 (a := 0) (b := 149) (dkn dmcX12_keep_ (by decide +kernel)) rfl
theorem dX12_keep__113 : decode cX12_keep_ 113 = .ok (.iload_n 1, 1) := dk_27 (dkn dmcX12_keep_ (by decide +kernel))
theorem dX12_keep__114 : decode cX12_keep_ 114 = .ok (.aload_n 0, 1) := dk_42 (dkn dmcX12_keep_ (by decide +kernel))
theorem dX12_keep__115 : decode cX12_keep_ 115 = .ok (.getfield 89, 3) := dk_180 (a := 0) (b := 89) (dkn dmcX12_keep_ (by decide +kernel)) rfl
theorem dX12_keep__118 : decode cX12_keep_ 118 = .ok (.bipush 12, 2) := dk_16 (a := 12) (dkn dmcX12_keep_ (by decide +kernel)) rfl
theorem dX12_keep__120 : decode cX12_keep_ 120 = .ok (.aload_n 0, 1) := dk_42 (dkn dmcX12_keep_ (by decide +kernel))
theorem dX12_keep__121 : decode cX12_keep_ 121 = .ok (.getfield 304, 3) := dk_180 (a := 1) (b := 48) (dkn dmcX12_keep_ (by decide +kernel)) rfl
theorem dX12_keep__124 : decode cX12_keep_ 124 = .ok (.imul, 1) := dk_104 (dkn dmcX12_keep_ (by decide +kernel))
theorem dX12_keep__125 : decode cX12_keep_ 125 = .ok (.iload_n 3, 1) := dk_29 (dkn dmcX12_keep_ (by decide +kernel))
theorem dX12_keep__126 : decode cX12_keep_ 126 = .ok (.iadd, 1) := dk_96 (dkn dmcX12_keep_ (by decide +kernel))
theorem dX12_keep__127 : decode cX12_keep_ 127 = .ok (.iaload, 1) := dk_46 (dkn dmcX12_keep_ (by decide +kernel))
theorem dX12_keep__128 : decode cX12_keep_ 128 = .ok (.iastore, 1) := dk_79 (dkn dmcX12_keep_ (by decide +kernel))
theorem dX12_keep__129 : decode cX12_keep_ 129 = .ok (.goto 124, 3) := dk_167 (a := 0) (b := 124) (dkn dmcX12_keep_ (by decide +kernel)) rfl
theorem dX12_keep__132 : decode cX12_keep_ 132 = .ok (.iload_n 2, 1) := dk_28 (dkn dmcX12_keep_ (by decide +kernel))
theorem dX12_keep__133 : decode cX12_keep_ 133 = .ok (.iconst 1, 1) := dk_4 (dkn dmcX12_keep_ (by decide +kernel))
theorem dX12_keep__134 : decode cX12_keep_ 134 = .ok (.if_icmp .le 119, 3) := dk_164 (a := 0) (b := 119) (dkn dmcX12_keep_ (by decide +kernel)) rfl
theorem dX12_keep__137 : decode cX12_keep_ 137 = .ok (.aload_n 0, 1) := dk_42 (dkn dmcX12_keep_ (by decide +kernel))
theorem dX12_keep__138 : decode cX12_keep_ 138 = .ok (.getfield 149, 3) := dk_180 (a := 0) (b := 149) (dkn dmcX12_keep_ (by decide +kernel)) rfl
theorem dX12_keep__141 : decode cX12_keep_ 141 = .ok (.iload_n 1, 1) := dk_27 (dkn dmcX12_keep_ (by decide +kernel))
theorem dX12_keep__142 : decode cX12_keep_ 142 = .ok (.iload_n 2, 1) := dk_28 (dkn dmcX12_keep_ (by decide +kernel))
theorem dX12_keep__143 : decode cX12_keep_ 143 = .ok (.iconst 3, 1) := dk_6 (dkn dmcX12_keep_ (by decide +kernel))
theorem dX12_keep__144 : decode cX12_keep_ 144 = .ok (.if_icmp .ne 8, 3) := dk_160 (a := 0) (b := 8) (dkn dmcX12_keep_ (by decide +kernel)) rfl
theorem dX12_keep__147 : decode cX12_keep_ 147 = .ok (.bipush 12, 2) := dk_16 (a := 12) (dkn dmcX12_keep_ (by decide +kernel)) rfl
theorem dX12_keep__149 : decode cX12_keep_ 149 = .ok (.goto 21, 3) := dk_167 (a := 0) (b := 21) (dkn dmcX12_keep_ (by decide +kernel)) rfl
theorem dX12_keep__152 : decode cX12_keep_ 152 = .ok (.aload_n 0, 1) := dk_42 (dkn dmcX12_keep_ (by decide +kernel))
theorem dX12_keep__153 : decode cX12_keep_ 153 = .ok (.getfield 304, 3) := dk_180 (a := 1) (b := 48) (dkn dmcX12_keep_ (by decide +kernel)) rfl
theorem dX12_keep__156 : decode cX12_keep_ 156 = .ok (.bipush 60, 2) := dk_16 (a := 60) (dkn dmcX12_keep_ (by decide +kernel)) rfl
theorem dX12_keep__158 : decode cX12_keep_ 158 = .ok (.if_icmp .ge 10, 3) := dk_162 (a := 0) (b := 10) (dkn dmcX12_keep_ (by decide +kernel)) rfl
theorem dX12_keep__161 : decode cX12_keep_ 161 = .ok (.aload_n 0, 1) := dk_42 (dkn dmcX12_keep_ (by decide +kernel))
theorem dX12_keep__162 : decode cX12_keep_ 162 = .ok (.getfield 304, 3) := dk_180 (a := 1) (b := 48) (dkn dmcX12_keep_ (by decide +kernel)) rfl
theorem dX12_keep__165 : decode cX12_keep_ 165 = .ok (.goto 5, 3) := dk_167 (a := 0) (b := 5) (dkn dmcX12_keep_ (by decide +kernel)) rfl
theorem dX12_keep__168 : decode cX12_keep_ 168 = .ok (.bipush 60, 2) := dk_16 (a := 60) (dkn dmcX12_keep_ (by decide +kernel)) rfl
theorem dX12_keep__170 : decode cX12_keep_ 170 = .ok (.iastore, 1) := dk_79 (dkn dmcX12_keep_ (by decide +kernel))
theorem dX12_keep__171 : decode cX12_keep_ 171 = .ok (.iconst 0, 1) := dk_3 (dkn dmcX12_keep_ (by decide +kernel))
theorem dX12_keep__172 : decode cX12_keep_ 172 = .ok (.istore 4, 2) := dk_54 (dkn dmcX12_keep_ (by decide +kernel))
theorem dX12_keep__174 : decode cX12_keep_ 174 = .ok (.iload 4, 2) := dk_21 (dkn dmcX12_keep_ (by decide +kernel))
theorem dX12_keep__176 : decode cX12_keep_ 176 = .ok (.aload_n 0, 1) := dk_42 (dkn dmcX12_keep_ (by decide +kernel))
theorem dX12_keep__177 : decode cX12_keep_ 177 = .ok (.getfield 149, 3) := dk_180 (a := 0) (b := 149) (dkn dmcX12_keep_ (by decide +kernel)) rfl
theorem dX12_keep__180 : decode cX12_keep_ 180 = .ok (.iload_n 1, 1) := dk_27 (dkn dmcX12_keep_ (by decide +kernel))
theorem dX12_keep__181 : decode cX12_keep_ 181 = .ok (.iaload, 1) := dk_46 (dkn dmcX12_keep_ (by decide +kernel))
theorem dX12_keep__182 : decode cX12_keep_ 182 = .ok (.if_icmp .ge 71, 3) := dk_162 (a := 0) (b := 71) (dkn dmcX12_keep_ (by decide +kernel)) rfl
theorem dX12_keep__185 : decode cX12_keep_ 185 = .ok (.bipush 28, 2) := dk_16 (a := 28) (dkn dmcX12_keep_ (by decide +kernel)) rfl
theorem dX12_keep__187 : decode cX12_keep_ 187 = .ok (.aload_n 0, 1) := dk_42 (dkn dmcX12_keep_ (by decide +kernel))
theorem dX12_keep__188 : decode cX12_keep_ 188 = .ok (.getfield 304, 3) := dk_180 (a := 1) (b := 48) (dkn dmcX12_keep_ (by decide +kernel)) rfl
theorem dX12_keep__191 : decode cX12_keep_ 191 = .ok (.imul, 1) := dk_104 (dkn dmcX12_keep_ (by decide +kernel))
theorem dX12_keep__192 : decode cX12_keep_ 192 = .ok (.iload 4, 2) := dk_21 (dkn dmcX12_keep_ (by decide +kernel))
theorem dX12_keep__194 : decode cX12_keep_ 194 = .ok (.iadd, 1) := dk_96 (dkn dmcX12_keep_ (by decide +kernel))
theorem dX12_keep__195 : decode cX12_keep_ 195 = .ok (.istore 5, 2) := dk_54 (dkn dmcX12_keep_ (by decide +kernel))
theorem dX12_keep__197 : decode cX12_keep_ 197 = .ok (.aload_n 0, 1) := dk_42 (dkn dmcX12_keep_ (by decide +kernel))
theorem dX12_keep__198 : decode cX12_keep_ 198 = .ok (.getfield 158, 3) := dk_180 (a := 0) (b := 158) (dkn dmcX12_keep_ (by decide +kernel)) rfl
theorem dX12_keep__201 : decode cX12_keep_ 201 = .ok (.bipush 60, 2) := dk_16 (a := 60) (dkn dmcX12_keep_ (by decide +kernel)) rfl
theorem dX12_keep__203 : decode cX12_keep_ 203 = .ok (.iload_n 1, 1) := dk_27 (dkn dmcX12_keep_ (by decide +kernel))
theorem dX12_keep__204 : decode cX12_keep_ 204 = .ok (.imul, 1) := dk_104 (dkn dmcX12_keep_ (by decide +kernel))
theorem dX12_keep__205 : decode cX12_keep_ 205 = .ok (.iload 4, 2) := dk_21 (dkn dmcX12_keep_ (by decide +kernel))
theorem dX12_keep__207 : decode cX12_keep_ 207 = .ok (.iadd, 1) := dk_96 (dkn dmcX12_keep_ (by decide +kernel))
theorem dX12_keep__208 : decode cX12_keep_ 208 = .ok (.iload_n 2, 1) := dk_28 (dkn dmcX12_keep_ (by decide +kernel))
theorem dX12_keep__209 : decode cX12_keep_ 209 = .ok (.iconst 2, 1) := dk_5 (dkn dmcX12_keep_ (by decide +kernel))
theorem dX12_keep__210 : decode cX12_keep_ 210 = .ok (.if_icmp .ne 15, 3) := dk_160 (a := 0) (b := 15) (dkn dmcX12_keep_ (by decide +kernel)) rfl
theorem dX12_keep__213 : decode cX12_keep_ 213 = .ok (.aload_n 0, 1) := dk_42 (dkn dmcX12_keep_ (by decide +kernel))
theorem dX12_keep__214 : decode cX12_keep_ 214 = .ok (.getfield 96, 3) := dk_180 (a := 0) (b := 96) (dkn dmcX12_keep_ (by decide +kernel)) rfl
theorem dX12_keep__217 : decode cX12_keep_ 217 = .ok (.iload 4, 2) := dk_21 (dkn dmcX12_keep_ (by decide +kernel))
theorem dX12_keep__219 : decode cX12_keep_ 219 = .ok (.iconst 1, 1) := dk_4 (dkn dmcX12_keep_ (by decide +kernel))
theorem dX12_keep__220 : decode cX12_keep_ 220 = .ok (.iadd, 1) := dk_96 (dkn dmcX12_keep_ (by decide +kernel))
theorem dX12_keep__221 : decode cX12_keep_ 221 = .ok (.iaload, 1) := dk_46 (dkn dmcX12_keep_ (by decide +kernel))
theorem dX12_keep__222 : decode cX12_keep_ 222 = .ok (.goto 24, 3) := dk_167 (a := 0) (b := 24) (dkn dmcX12_keep_ (by decide +kernel)) rfl
theorem dX12_keep__225 : decode cX12_keep_ 225 = .ok (.aload_n 0, 1) := dk_42 (dkn dmcX12_keep_ (by decide +kernel))
theorem dX12_keep__226 : decode cX12_keep_ 226 = .ok (.getfield 68, 3) := dk_180 (a := 0) (b := 68) (dkn dmcX12_keep_ (by decide +kernel)) rfl
theorem dX12_keep__229 : decode cX12_keep_ 229 = .ok (.iload 5, 2) := dk_21 (dkn dmcX12_keep_ (by decide +kernel))
theorem dX12_keep__231 : decode cX12_keep_ 231 = .ok (.iaload, 1) := dk_46 (dkn dmcX12_keep_ (by decide +kernel))
theorem dX12_keep__232 : decode cX12_keep_ 232 = .ok (.ifCond .ne 13, 3) := dk_154 (a := 0) (b := 13) (dkn dmcX12_keep_ (by decide +kernel)) rfl
theorem dX12_keep__235 : decode cX12_keep_ 235 = .ok (.aload_n 0, 1) := dk_42 (dkn dmcX12_keep_ (by decide +kernel))
theorem dX12_keep__236 : decode cX12_keep_ 236 = .ok (.getfield 71, 3) := dk_180 (a := 0) (b := 71) (dkn dmcX12_keep_ (by decide +kernel)) rfl
theorem dX12_keep__239 : decode cX12_keep_ 239 = .ok (.iload 5, 2) := dk_21 (dkn dmcX12_keep_ (by decide +kernel))
theorem dX12_keep__241 : decode cX12_keep_ 241 = .ok (.iaload, 1) := dk_46 (dkn dmcX12_keep_ (by decide +kernel))
theorem dX12_keep__242 : decode cX12_keep_ 242 = .ok (.goto 4, 3) := dk_167 (a := 0) (b := 4) (dkn dmcX12_keep_ (by decide +kernel)) rfl
theorem dX12_keep__245 : decode cX12_keep_ 245 = .ok (.iconst 0, 1) := dk_3 (dkn dmcX12_keep_ (by decide +kernel))
theorem dX12_keep__246 : decode cX12_keep_ 246 = .ok (.iastore, 1) := dk_79 (dkn dmcX12_keep_ (by decide +kernel))
theorem dX12_keep__247 : decode cX12_keep_ 247 = .ok (.iinc 4 1, 3) := dk_132 (b := 1) (dkn dmcX12_keep_ (by decide +kernel)) rfl
theorem dX12_keep__250 : decode cX12_keep_ 250 = .ok (.goto (-76), 3) := dk_167 (a := 255) (b := 180) (dkn dmcX12_keep_ (by decide +kernel)) rfl
theorem dX12_keep__253 : decode cX12_keep_ 253 = .ok (.iconst 0, 1) := dk_3 (dkn dmcX12_keep_ (by decide +kernel))
theorem dX12_keep__254 : decode cX12_keep_ 254 = .ok (.ireturn, 1) := dk_172 (dkn dmcX12_keep_ (by decide +kernel))
def dncX12_make : Nat := 0xac03eaffa70104844f03600415681b3c109e00b42a1600a21d04150436034f1d1b9500b42a4f1c1b9200b42aacf21006009c1dac020500a43c101d090099a900b8a70014450114851c1700997601b81ba400b5032a
theorem dmcX12_make : dkc dncX12_make 85 cX12_make.data.toList 0 = true := by decide +kernel
theorem dX12_make_0 : decode cX12_make 0 = .ok (.aload_n 0, 1) := dk_42 (dkn dmcX12_make (by decide +kernel))
theorem dX12_make_1 : decode cX12_make 1 = .ok (.iconst 0, 1) := dk_3 (dkn dmcX12_make (by decide +kernel))
theorem dX12_make_2 : decode cX12_make 2 = .ok (.putfield 164, 3) := dk_181 (a := 0) (b := 164) (dkn dmcX12_make (by decide +kernel)) rfl
theorem dX12_make_5 : decode cX12_make 5 = .ok (.iload_n 1, 1) := dk_27 (dkn dmcX12_make (by decide +kernel))
theorem dX12_make_6 : decode cX12_make 6 = .ok (.invokestatic 374, 3) := dk_184 (a := 1) (b := 118) (dkn dmcX12_make (by decide +kernel)) rfl
theorem dX12_make_9 : decode cX12_make 9 = .ok (.ifCond .eq 23, 3) := dk_153 (a := 0) (b := 23) (dkn dmcX12_make (by decide +kernel)) rfl
theorem dX12_make_12 : decode cX12_make 12 = .ok (.iload_n 2, 1) := dk_28 (dkn dmcX12_make (by decide +kernel))
theorem dX12_make_13 : decode cX12_make 13 = .ok (.i2l, 1) := dk_133 (dkn dmcX12_make (by decide +kernel))
theorem dX12_make_14 : decode cX12_make 14 = .ok (.ldc2_w 325, 3) := dk_20 (a := 1) (b := 69) (dkn dmcX12_make (by decide +kernel)) rfl
theorem dX12_make_17 : decode cX12_make 17 = .ok (.ldc2_w 167, 3) := dk_20 (a := 0) (b := 167) (dkn dmcX12_make (by decide +kernel)) rfl
theorem dX12_make_20 : decode cX12_make 20 = .ok (.invokestatic 169, 3) := dk_184 (a := 0) (b := 169) (dkn dmcX12_make (by decide +kernel)) rfl
theorem dX12_make_23 : decode cX12_make 23 = .ok (.ifCond .eq 9, 3) := dk_153 (a := 0) (b := 9) (dkn dmcX12_make (by decide +kernel)) rfl
theorem dX12_make_26 : decode cX12_make 26 = .ok (.iload_n 3, 1) := dk_29 (dkn dmcX12_make (by decide +kernel))
theorem dX12_make_27 : decode cX12_make 27 = .ok (.bipush 60, 2) := dk_16 (a := 60) (dkn dmcX12_make (by decide +kernel)) rfl
theorem dX12_make_29 : decode cX12_make 29 = .ok (.if_icmp .le 5, 3) := dk_164 (a := 0) (b := 5) (dkn dmcX12_make (by decide +kernel)) rfl
theorem dX12_make_32 : decode cX12_make 32 = .ok (.iconst (-1), 1) := dk_2 (dkn dmcX12_make (by decide +kernel))
theorem dX12_make_33 : decode cX12_make 33 = .ok (.ireturn, 1) := dk_172 (dkn dmcX12_make (by decide +kernel))
theorem dX12_make_34 : decode cX12_make 34 = .ok (.iload_n 3, 1) := dk_29 (dkn dmcX12_make (by decide +kernel))
theorem dX12_make_35 : decode cX12_make 35 = .ok (.ifCond .ge 6, 3) := dk_156 (a := 0) (b := 6) (dkn dmcX12_make (by decide +kernel)) rfl
theorem dX12_make_38 : decode cX12_make 38 = .ok (.bipush (-14), 2) := dk_16 (a := 242) (dkn dmcX12_make (by decide +kernel)) rfl
theorem dX12_make_40 : decode cX12_make 40 = .ok (.ireturn, 1) := dk_172 (dkn dmcX12_make (by decide +kernel))
theorem dX12_make_41 : decode cX12_make 41 = .ok (.aload_n 0, 1) := dk_42 (dkn dmcX12_make (by decide +kernel))
theorem dX12_make_42 : decode cX12_make 42 = .ok (.getfield 146, 3) := dk_180 (a := 0) (b := 146) (dkn dmcX12_make (by decide +kernel)) rfl
theorem dX12_make_45 : decode cX12_make 45 = .ok (.iload_n 1, 1) := dk_27 (dkn dmcX12_make (by decide +kernel))
theorem dX12_make_46 : decode cX12_make 46 = .ok (.iload_n 2, 1) := dk_28 (dkn dmcX12_make (by decide +kernel))
theorem dX12_make_47 : decode cX12_make 47 = .ok (.iastore, 1) := dk_79 (dkn dmcX12_make (by decide +kernel))
theorem dX12_make_48 : decode cX12_make 48 = .ok (.aload_n 0, 1) := dk_42 (dkn dmcX12_make (by decide +kernel))
theorem dX12_make_49 : decode cX12_make 49 = .ok (.getfield 149, 3) := dk_180 (a := 0) (b := 149) (dkn dmcX12_make (by decide +kernel)) rfl
theorem dX12_make_52 : decode cX12_make 52 = .ok (.iload_n 1, 1) := dk_27 (dkn dmcX12_make (by decide +kernel))
theorem dX12_make_53 : decode cX12_make 53 = .ok (.iload_n 3, 1) := dk_29 (dkn dmcX12_make (by decide +kernel))
theorem dX12_make_54 : decode cX12_make 54 = .ok (.iastore, 1) := dk_79 (dkn dmcX12_make (by decide +kernel))
theorem dX12_make_55 : decode cX12_make 55 = .ok (.iconst 0, 1) := dk_3 (dkn dmcX12_make (by decide +kernel))
theorem dX12_make_56 : decode cX12_make 56 = .ok (.istore 4, 2) := dk_54 (dkn dmcX12_make (by decide +kernel))
theorem dX12_make_58 : decode cX12_make 58 = .ok (.iload 4, 2) := dk_21 (dkn dmcX12_make (by decide +kernel))
theorem dX12_make_60 : decode cX12_make 60 = .ok (.iload_n 3, 1) := dk_29 (dkn dmcX12_make (by decide +kernel))
theorem dX12_make_61 : decode cX12_make 61 = .ok (.if_icmp .ge 22, 3) := dk_162 (a := 0) (b := 22) (dkn dmcX12_make (by decide +kernel)) rfl
theorem dX12_make_64 : decode cX12_make 64 = .ok (.aload_n 0, 1) := dk_42 (dkn dmcX12_make (by decide +kernel))
theorem dX12_make_65 : decode cX12_make 65 = .ok (.getfield 158, 3) := dk_180 (a := 0) (b := 158) (dkn dmcX12_make (by decide +kernel)) rfl
theorem dX12_make_68 : decode cX12_make 68 = .ok (.bipush 60, 2) := dk_16 (a := 60) (dkn dmcX12_make (by decide +kernel)) rfl
theorem dX12_make_70 : decode cX12_make 70 = .ok (.iload_n 1, 1) := dk_27 (dkn dmcX12_make (by decide +kernel))
theorem dX12_make_71 : decode cX12_make 71 = .ok (.imul, 1) := dk_104 (dkn dmcX12_make (by decide +kernel))
theorem dX12_make_72 : decode cX12_make 72 = .ok (.iload 4, 2) := dk_21 (dkn dmcX12_make (by decide +kernel))
theorem dX12_make_74 : decode cX12_make 74 = .ok (.iadd, 1) := dk_96 (dkn dmcX12_make (by decide +kernel))
theorem dX12_make_75 : decode cX12_make 75 = .ok (.iconst 0, 1) := dk_3 (dkn dmcX12_make (by decide +kernel))
theorem dX12_make_76 : decode cX12_make 76 = .ok (.iastore, 1) := dk_79 (dkn dmcX12_make (by decide +kernel))
theorem dX12_make_77 : decode cX12_make 77 = .ok (.iinc 4 1, 3) := dk_132 (b := 1) (dkn dmcX12_make (by decide +kernel)) rfl
theorem dX12_make_80 : decode cX12_make 80 = .ok (.goto (-22), 3) := dk_167 (a := 255) (b := 234) (dkn dmcX12_make (by decide +kernel)) rfl
theorem dX12_make_83 : decode cX12_make 83 = .ok (.iconst 0, 1) := dk_3 (dkn dmcX12_make (by decide +kernel))
theorem dX12_make_84 : decode cX12_make 84 = .ok (.ireturn, 1) := dk_172 (dkn dmcX12_make (by decide +kernel))
def dncX12_element : Nat := 0xac030400a72e601c681b3c109e00b42a1100991da400b5050400a7030700991d0c00a70407009a7601b81b2a3e030400a704070099a900b88564042e1b9500b42a09851c1900a4042e1b9200b42a2300997601b81b
theorem dmcX12_element : dkc dncX12_element 85 cX12_element.data.toList 0 = true := by decide +kernel
theorem dX12_element_0 : decode cX12_element 0 = .ok (.iload_n 1, 1) := dk_27 (dkn dmcX12_element (by decide +kernel))
theorem dX12_element_1 : decode cX12_element 1 = .ok (.invokestatic 374, 3) := dk_184 (a := 1) (b := 118) (dkn dmcX12_element (by decide +kernel)) rfl
theorem dX12_element_4 : decode cX12_element 4 = .ok (.ifCond .eq 35, 3) := dk_153 (a := 0) (b := 35) (dkn dmcX12_element (by decide +kernel)) rfl
theorem dX12_element_7 : decode cX12_element 7 = .ok (.aload_n 0, 1) := dk_42 (dkn dmcX12_element (by decide +kernel))
theorem dX12_element_8 : decode cX12_element 8 = .ok (.getfield 146, 3) := dk_180 (a := 0) (b := 146) (dkn dmcX12_element (by decide +kernel)) rfl
theorem dX12_element_11 : decode cX12_element 11 = .ok (.iload_n 1, 1) := dk_27 (dkn dmcX12_element (by decide +kernel))
theorem dX12_element_12 : decode cX12_element 12 = .ok (.iaload, 1) := dk_46 (dkn dmcX12_element (by decide +kernel))
theorem dX12_element_13 : decode cX12_element 13 = .ok (.iconst 1, 1) := dk_4 (dkn dmcX12_element (by decide +kernel))
theorem dX12_element_14 : decode cX12_element 14 = .ok (.if_icmp .le 25, 3) := dk_164 (a := 0) (b := 25) (dkn dmcX12_element (by decide +kernel)) rfl
theorem dX12_element_17 : decode cX12_element 17 = .ok (.iload_n 2, 1) := dk_28 (dkn dmcX12_element (by decide +kernel))
theorem dX12_element_18 : decode cX12_element 18 = .ok (.i2l, 1) := dk_133 (dkn dmcX12_element (by decide +kernel))
theorem dX12_element_19 : decode cX12_element 19 = .ok (.lconst 0, 1) := dk_9 (dkn dmcX12_element (by decide +kernel))
theorem dX12_element_20 : decode cX12_element 20 = .ok (.aload_n 0, 1) := dk_42 (dkn dmcX12_element (by decide +kernel))
theorem dX12_element_21 : decode cX12_element 21 = .ok (.getfield 149, 3) := dk_180 (a := 0) (b := 149) (dkn dmcX12_element (by decide +kernel)) rfl
theorem dX12_element_24 : decode cX12_element 24 = .ok (.iload_n 1, 1) := dk_27 (dkn dmcX12_element (by decide +kernel))
theorem dX12_element_25 : decode cX12_element 25 = .ok (.iaload, 1) := dk_46 (dkn dmcX12_element (by decide +kernel))
theorem dX12_element_26 : decode cX12_element 26 = .ok (.iconst 1, 1) := dk_4 (dkn dmcX12_element (by decide +kernel))
theorem dX12_element_27 : decode cX12_element 27 = .ok (.isub, 1) := dk_100 (dkn dmcX12_element (by decide +kernel))
theorem dX12_element_28 : decode cX12_element 28 = .ok (.i2l, 1) := dk_133 (dkn dmcX12_element (by decide +kernel))
theorem dX12_element_29 : decode cX12_element 29 = .ok (.invokestatic 169, 3) := dk_184 (a := 0) (b := 169) (dkn dmcX12_element (by decide +kernel)) rfl
theorem dX12_element_32 : decode cX12_element 32 = .ok (.ifCond .eq 7, 3) := dk_153 (a := 0) (b := 7) (dkn dmcX12_element (by decide +kernel)) rfl
theorem dX12_element_35 : decode cX12_element 35 = .ok (.iconst 1, 1) := dk_4 (dkn dmcX12_element (by decide +kernel))
theorem dX12_element_36 : decode cX12_element 36 = .ok (.goto 4, 3) := dk_167 (a := 0) (b := 4) (dkn dmcX12_element (by decide +kernel)) rfl
theorem dX12_element_39 : decode cX12_element 39 = .ok (.iconst 0, 1) := dk_3 (dkn dmcX12_element (by decide +kernel))
theorem dX12_element_40 : decode cX12_element 40 = .ok (.istore_n 3, 1) := dk_62 (dkn dmcX12_element (by decide +kernel))
theorem dX12_element_41 : decode cX12_element 41 = .ok (.aload_n 0, 1) := dk_42 (dkn dmcX12_element (by decide +kernel))
theorem dX12_element_42 : decode cX12_element 42 = .ok (.iload_n 1, 1) := dk_27 (dkn dmcX12_element (by decide +kernel))
theorem dX12_element_43 : decode cX12_element 43 = .ok (.invokestatic 374, 3) := dk_184 (a := 1) (b := 118) (dkn dmcX12_element (by decide +kernel)) rfl
theorem dX12_element_46 : decode cX12_element 46 = .ok (.ifCond .ne 7, 3) := dk_154 (a := 0) (b := 7) (dkn dmcX12_element (by decide +kernel)) rfl
theorem dX12_element_49 : decode cX12_element 49 = .ok (.iconst 1, 1) := dk_4 (dkn dmcX12_element (by decide +kernel))
theorem dX12_element_50 : decode cX12_element 50 = .ok (.goto 12, 3) := dk_167 (a := 0) (b := 12) (dkn dmcX12_element (by decide +kernel)) rfl
theorem dX12_element_53 : decode cX12_element 53 = .ok (.iload_n 3, 1) := dk_29 (dkn dmcX12_element (by decide +kernel))
theorem dX12_element_54 : decode cX12_element 54 = .ok (.ifCond .eq 7, 3) := dk_153 (a := 0) (b := 7) (dkn dmcX12_element (by decide +kernel)) rfl
theorem dX12_element_57 : decode cX12_element 57 = .ok (.iconst 0, 1) := dk_3 (dkn dmcX12_element (by decide +kernel))
theorem dX12_element_58 : decode cX12_element 58 = .ok (.goto 4, 3) := dk_167 (a := 0) (b := 4) (dkn dmcX12_element (by decide +kernel)) rfl
theorem dX12_element_61 : decode cX12_element 61 = .ok (.iconst 2, 1) := dk_5 (dkn dmcX12_element (by decide +kernel))
theorem dX12_element_62 : decode cX12_element 62 = .ok (.putfield 164, 3) := dk_181 (a := 0) (b := 164) (dkn dmcX12_element (by decide +kernel)) rfl
theorem dX12_element_65 : decode cX12_element 65 = .ok (.iload_n 3, 1) := dk_29 (dkn dmcX12_element (by decide +kernel))
theorem dX12_element_66 : decode cX12_element 66 = .ok (.ifCond .eq 17, 3) := dk_153 (a := 0) (b := 17) (dkn dmcX12_element (by decide +kernel)) rfl
theorem dX12_element_69 : decode cX12_element 69 = .ok (.aload_n 0, 1) := dk_42 (dkn dmcX12_element (by decide +kernel))
theorem dX12_element_70 : decode cX12_element 70 = .ok (.getfield 158, 3) := dk_180 (a := 0) (b := 158) (dkn dmcX12_element (by decide +kernel)) rfl
theorem dX12_element_73 : decode cX12_element 73 = .ok (.bipush 60, 2) := dk_16 (a := 60) (dkn dmcX12_element (by decide +kernel)) rfl
theorem dX12_element_75 : decode cX12_element 75 = .ok (.iload_n 1, 1) := dk_27 (dkn dmcX12_element (by decide +kernel))
theorem dX12_element_76 : decode cX12_element 76 = .ok (.imul, 1) := dk_104 (dkn dmcX12_element (by decide +kernel))
theorem dX12_element_77 : decode cX12_element 77 = .ok (.iload_n 2, 1) := dk_28 (dkn dmcX12_element (by decide +kernel))
theorem dX12_element_78 : decode cX12_element 78 = .ok (.iadd, 1) := dk_96 (dkn dmcX12_element (by decide +kernel))
theorem dX12_element_79 : decode cX12_element 79 = .ok (.iaload, 1) := dk_46 (dkn dmcX12_element (by decide +kernel))
theorem dX12_element_80 : decode cX12_element 80 = .ok (.goto 4, 3) := dk_167 (a := 0) (b := 4) (dkn dmcX12_element (by decide +kernel)) rfl
theorem dX12_element_83 : decode cX12_element 83 = .ok (.iconst 0, 1) := dk_3 (dkn dmcX12_element (by decide +kernel))
theorem dX12_element_84 : decode cX12_element 84 = .ok (.ireturn, 1) := dk_172 (dkn dmcX12_element (by decide +kernel))
def dncX12_hasPlaces : Nat := 0xac030400a7040700a3641c2e1b9500b42a1d1300a32e1b9500b42a1c1d009b1c21009b1d
theorem dmcX12_hasPlaces : dkc dncX12_hasPlaces 36 cX12_hasPlaces.data.toList 0 = true := by decide +kernel
theorem dX12_hasPlaces_0 : decode cX12_hasPlaces 0 = .ok (.iload_n 3, 1) := dk_29 (dkn dmcX12_hasPlaces (by decide +kernel))
theorem dX12_hasPlaces_1 : decode cX12_hasPlaces 1 = .ok (.ifCond .lt 33, 3) := dk_155 (a := 0) (b := 33) (dkn dmcX12_hasPlaces (by decide +kernel)) rfl
theorem dX12_hasPlaces_4 : decode cX12_hasPlaces 4 = .ok (.iload_n 2, 1) := dk_28 (dkn dmcX12_hasPlaces (by decide +kernel))
theorem dX12_hasPlaces_5 : decode cX12_hasPlaces 5 = .ok (.ifCond .lt 29, 3) := dk_155 (a := 0) (b := 29) (dkn dmcX12_hasPlaces (by decide +kernel)) rfl
theorem dX12_hasPlaces_8 : decode cX12_hasPlaces 8 = .ok (.iload_n 2, 1) := dk_28 (dkn dmcX12_hasPlaces (by decide +kernel))
theorem dX12_hasPlaces_9 : decode cX12_hasPlaces 9 = .ok (.aload_n 0, 1) := dk_42 (dkn dmcX12_hasPlaces (by decide +kernel))
theorem dX12_hasPlaces_10 : decode cX12_hasPlaces 10 = .ok (.getfield 149, 3) := dk_180 (a := 0) (b := 149) (dkn dmcX12_hasPlaces (by decide +kernel)) rfl
theorem dX12_hasPlaces_13 : decode cX12_hasPlaces 13 = .ok (.iload_n 1, 1) := dk_27 (dkn dmcX12_hasPlaces (by decide +kernel))
theorem dX12_hasPlaces_14 : decode cX12_hasPlaces 14 = .ok (.iaload, 1) := dk_46 (dkn dmcX12_hasPlaces (by decide +kernel))
theorem dX12_hasPlaces_15 : decode cX12_hasPlaces 15 = .ok (.if_icmp .gt 19, 3) := dk_163 (a := 0) (b := 19) (dkn dmcX12_hasPlaces (by decide +kernel)) rfl
theorem dX12_hasPlaces_18 : decode cX12_hasPlaces 18 = .ok (.iload_n 3, 1) := dk_29 (dkn dmcX12_hasPlaces (by decide +kernel))
theorem dX12_hasPlaces_19 : decode cX12_hasPlaces 19 = .ok (.aload_n 0, 1) := dk_42 (dkn dmcX12_hasPlaces (by decide +kernel))
theorem dX12_hasPlaces_20 : decode cX12_hasPlaces 20 = .ok (.getfield 149, 3) := dk_180 (a := 0) (b := 149) (dkn dmcX12_hasPlaces (by decide +kernel)) rfl
theorem dX12_hasPlaces_23 : decode cX12_hasPlaces 23 = .ok (.iload_n 1, 1) := dk_27 (dkn dmcX12_hasPlaces (by decide +kernel))
theorem dX12_hasPlaces_24 : decode cX12_hasPlaces 24 = .ok (.iaload, 1) := dk_46 (dkn dmcX12_hasPlaces (by decide +kernel))
theorem dX12_hasPlaces_25 : decode cX12_hasPlaces 25 = .ok (.iload_n 2, 1) := dk_28 (dkn dmcX12_hasPlaces (by decide +kernel))
theorem dX12_hasPlaces_26 : decode cX12_hasPlaces 26 = .ok (.isub, 1) := dk_100 (dkn dmcX12_hasPlaces (by decide +kernel))
theorem dX12_hasPlaces_27 : decode cX12_hasPlaces 27 = .ok (.if_icmp .gt 7, 3) := dk_163 (a := 0) (b := 7) (dkn dmcX12_hasPlaces (by decide +kernel)) rfl
theorem dX12_hasPlaces_30 : decode cX12_hasPlaces 30 = .ok (.iconst 1, 1) := dk_4 (dkn dmcX12_hasPlaces (by decide +kernel))
theorem dX12_hasPlaces_31 : decode cX12_hasPlaces 31 = .ok (.goto 4, 3) := dk_167 (a := 0) (b := 4) (dkn dmcX12_hasPlaces (by decide +kernel)) rfl
theorem dX12_hasPlaces_34 : decode cX12_hasPlaces 34 = .ok (.iconst 0, 1) := dk_3 (dkn dmcX12_hasPlaces (by decide +kernel))
theorem dX12_hasPlaces_35 : decode cX12_hasPlaces 35 = .ok (.ireturn, 1) := dk_172 (dkn dmcX12_hasPlaces (by decide +kernel))
def dncX12_copy : Nat := 0xac0515e0ffa70106844f2e0615a100b42a600615600415681d3c109e00b42a1f00a205150615063603e1ffa70106844f2e600615601c681b3c109e00b42a0615a100b42a1e00a205150615063603acf31006009a7901b6051504151d2a0f00997901b605151c1b2aacf41006009f2e1d9200b42a2e1b9200b42a1200a1052e1b9200b42aacf51006009a2e1d9200b42a0c00992e1b9200b42aac0205009a7601b81d0a00997601b81ba400b5032a
theorem dmcX12_copy : dkc dncX12_copy 174 cX12_copy.data.toList 0 = true := by decide +kernel
theorem dX12_copy_0 : decode cX12_copy 0 = .ok (.aload_n 0, 1) := dk_42 (dkn dmcX12_copy (by decide +kernel))
theorem dX12_copy_1 : decode cX12_copy 1 = .ok (.iconst 0, 1) := dk_3 (dkn dmcX12_copy (by decide +kernel))
theorem dX12_copy_2 : decode cX12_copy 2 = .ok (.putfield 164, 3) := dk_181 (a := 0) (b := 164) (dkn dmcX12_copy (by decide +kernel)) rfl
theorem dX12_copy_5 : decode cX12_copy 5 = .ok (.iload_n 1, 1) := dk_27 (dkn dmcX12_copy (by decide +kernel))
theorem dX12_copy_6 : decode cX12_copy 6 = .ok (.invokestatic 374, 3) := dk_184 (a := 1) (b := 118) (dkn dmcX12_copy (by decide +kernel)) rfl
theorem dX12_copy_9 : decode cX12_copy 9 = .ok (.ifCond .eq 10, 3) := dk_153 (a := 0) (b := 10) (dkn dmcX12_copy (by decide +kernel)) rfl
theorem dX12_copy_12 : decode cX12_copy 12 = .ok (.iload_n 3, 1) := dk_29 (dkn dmcX12_copy (by decide +kernel))
theorem dX12_copy_13 : decode cX12_copy 13 = .ok (.invokestatic 374, 3) := dk_184 (a := 1) (b := 118) (dkn dmcX12_copy (by decide +kernel)) rfl
theorem dX12_copy_16 : decode cX12_copy 16 = .ok (.ifCond .ne 5, 3) := dk_154 (a := 0) (b := 5) (dkn dmcX12_copy (by decide +kernel)) rfl
theorem dX12_copy_19 : decode cX12_copy 19 = .ok (.iconst (-1), 1) := dk_2 (dkn dmcX12_copy (by decide +kernel))
theorem dX12_copy_20 : decode cX12_copy 20 = .ok (.ireturn, 1) := dk_172 (dkn dmcX12_copy (by decide +kernel))
theorem dX12_copy_21 : decode cX12_copy 21 = .ok (.aload_n 0, 1) := dk_42 (dkn dmcX12_copy (by decide +kernel))
theorem dX12_copy_22 : decode cX12_copy 22 = .ok (.getfield 146, 3) := dk_180 (a := 0) (b := 146) (dkn dmcX12_copy (by decide +kernel)) rfl
theorem dX12_copy_25 : decode cX12_copy 25 = .ok (.iload_n 1, 1) := dk_27 (dkn dmcX12_copy (by decide +kernel))
theorem dX12_copy_26 : decode cX12_copy 26 = .ok (.iaload, 1) := dk_46 (dkn dmcX12_copy (by decide +kernel))
theorem dX12_copy_27 : decode cX12_copy 27 = .ok (.ifCond .eq 12, 3) := dk_153 (a := 0) (b := 12) (dkn dmcX12_copy (by decide +kernel)) rfl
theorem dX12_copy_30 : decode cX12_copy 30 = .ok (.aload_n 0, 1) := dk_42 (dkn dmcX12_copy (by decide +kernel))
theorem dX12_copy_31 : decode cX12_copy 31 = .ok (.getfield 146, 3) := dk_180 (a := 0) (b := 146) (dkn dmcX12_copy (by decide +kernel)) rfl
theorem dX12_copy_34 : decode cX12_copy 34 = .ok (.iload_n 3, 1) := dk_29 (dkn dmcX12_copy (by decide +kernel))
theorem dX12_copy_35 : decode cX12_copy 35 = .ok (.iaload, 1) := dk_46 (dkn dmcX12_copy (by decide +kernel))
theorem dX12_copy_36 : decode cX12_copy 36 = .ok (.ifCond .ne 6, 3) := dk_154 (a := 0) (b := 6) (dkn dmcX12_copy (by decide +kernel)) rfl
theorem dX12_copy_39 : decode cX12_copy 39 = .ok (.bipush (-11), 2) := dk_16 (a := 245) (dkn dmcX12_copy (by decide +kernel)) rfl
theorem dX12_copy_41 : decode cX12_copy 41 = .ok (.ireturn, 1) := dk_172 (dkn dmcX12_copy (by decide +kernel))
theorem dX12_copy_42 : decode cX12_copy 42 = .ok (.aload_n 0, 1) := dk_42 (dkn dmcX12_copy (by decide +kernel))
theorem dX12_copy_43 : decode cX12_copy 43 = .ok (.getfield 146, 3) := dk_180 (a := 0) (b := 146) (dkn dmcX12_copy (by decide +kernel)) rfl
theorem dX12_copy_46 : decode cX12_copy 46 = .ok (.iload_n 1, 1) := dk_27 (dkn dmcX12_copy (by decide +kernel))
theorem dX12_copy_47 : decode cX12_copy 47 = .ok (.iaload, 1) := dk_46 (dkn dmcX12_copy (by decide +kernel))
theorem dX12_copy_48 : decode cX12_copy 48 = .ok (.iconst 2, 1) := dk_5 (dkn dmcX12_copy (by decide +kernel))
theorem dX12_copy_49 : decode cX12_copy 49 = .ok (.if_icmp .lt 18, 3) := dk_161 (a := 0) (b := 18) (dkn dmcX12_copy (by decide +kernel)) rfl
theorem dX12_copy_52 : decode cX12_copy 52 = .ok (.aload_n 0, 1) := dk_42 (dkn dmcX12_copy (by decide +kernel))
theorem dX12_copy_53 : decode cX12_copy 53 = .ok (.getfield 146, 3) := dk_180 (a := 0) (b := 146) (dkn dmcX12_copy (by decide +kernel)) rfl
theorem dX12_copy_56 : decode cX12_copy 56 = .ok (.iload_n 1, 1) := dk_27 (dkn dmcX12_copy (by decide +kernel))
theorem dX12_copy_57 : decode cX12_copy 57 = .ok (.iaload, 1) := dk_46 (dkn dmcX12_copy (by decide +kernel))
theorem dX12_copy_58 : decode cX12_copy 58 = .ok (.aload_n 0, 1) := dk_42 (dkn dmcX12_copy (by decide +kernel))
theorem dX12_copy_59 : decode cX12_copy 59 = .ok (.getfield 146, 3) := dk_180 (a := 0) (b := 146) (dkn dmcX12_copy (by decide +kernel)) rfl
theorem dX12_copy_62 : decode cX12_copy 62 = .ok (.iload_n 3, 1) := dk_29 (dkn dmcX12_copy (by decide +kernel))
theorem dX12_copy_63 : decode cX12_copy 63 = .ok (.iaload, 1) := dk_46 (dkn dmcX12_copy (by decide +kernel))
theorem dX12_copy_64 : decode cX12_copy 64 = .ok (.if_icmp .eq 6, 3) := dk_159 (a := 0) (b := 6) (dkn dmcX12_copy (by decide +kernel)) rfl
theorem dX12_copy_67 : decode cX12_copy 67 = .ok (.bipush (-12), 2) := dk_16 (a := 244) (dkn dmcX12_copy (by decide +kernel)) rfl
theorem dX12_copy_69 : decode cX12_copy 69 = .ok (.ireturn, 1) := dk_172 (dkn dmcX12_copy (by decide +kernel))
theorem dX12_copy_70 : decode cX12_copy 70 = .ok (.aload_n 0, 1) := dk_42 (dkn dmcX12_copy (by decide +kernel))
theorem dX12_copy_71 : decode cX12_copy 71 = .ok (.iload_n 1, 1) := dk_27 (dkn dmcX12_copy (by decide +kernel))
theorem dX12_copy_72 : decode cX12_copy 72 = .ok (.iload_n 2, 1) := dk_28 (dkn dmcX12_copy (by decide +kernel))
theorem dX12_copy_73 : decode cX12_copy 73 = .ok (.iload 5, 2) := dk_21 (dkn dmcX12_copy (by decide +kernel))
theorem dX12_copy_75 : decode cX12_copy 75 = .ok (.invokevirtual 377, 3) := dk_182 (a := 1) (b := 121) (dkn dmcX12_copy (by decide +kernel)) rfl
theorem dX12_copy_78 : decode cX12_copy 78 = .ok (.ifCond .eq 15, 3) := dk_153 (a := 0) (b := 15) (dkn dmcX12_copy (by decide +kernel)) rfl
theorem dX12_copy_81 : decode cX12_copy 81 = .ok (.aload_n 0, 1) := dk_42 (dkn dmcX12_copy (by decide +kernel))
theorem dX12_copy_82 : decode cX12_copy 82 = .ok (.iload_n 3, 1) := dk_29 (dkn dmcX12_copy (by decide +kernel))
theorem dX12_copy_83 : decode cX12_copy 83 = .ok (.iload 4, 2) := dk_21 (dkn dmcX12_copy (by decide +kernel))
theorem dX12_copy_85 : decode cX12_copy 85 = .ok (.iload 5, 2) := dk_21 (dkn dmcX12_copy (by decide +kernel))
theorem dX12_copy_87 : decode cX12_copy 87 = .ok (.invokevirtual 377, 3) := dk_182 (a := 1) (b := 121) (dkn dmcX12_copy (by decide +kernel)) rfl
theorem dX12_copy_90 : decode cX12_copy 90 = .ok (.ifCond .ne 6, 3) := dk_154 (a := 0) (b := 6) (dkn dmcX12_copy (by decide +kernel)) rfl
theorem dX12_copy_93 : decode cX12_copy 93 = .ok (.bipush (-13), 2) := dk_16 (a := 243) (dkn dmcX12_copy (by decide +kernel)) rfl
theorem dX12_copy_95 : decode cX12_copy 95 = .ok (.ireturn, 1) := dk_172 (dkn dmcX12_copy (by decide +kernel))
theorem dX12_copy_96 : decode cX12_copy 96 = .ok (.iconst 0, 1) := dk_3 (dkn dmcX12_copy (by decide +kernel))
theorem dX12_copy_97 : decode cX12_copy 97 = .ok (.istore 6, 2) := dk_54 (dkn dmcX12_copy (by decide +kernel))
theorem dX12_copy_99 : decode cX12_copy 99 = .ok (.iload 6, 2) := dk_21 (dkn dmcX12_copy (by decide +kernel))
theorem dX12_copy_101 : decode cX12_copy 101 = .ok (.iload 5, 2) := dk_21 (dkn dmcX12_copy (by decide +kernel))
theorem dX12_copy_103 : decode cX12_copy 103 = .ok (.if_icmp .ge 30, 3) := dk_162 (a := 0) (b := 30) (dkn dmcX12_copy (by decide +kernel)) rfl
theorem dX12_copy_106 : decode cX12_copy 106 = .ok (.aload_n 0, 1) := dk_42 (dkn dmcX12_copy (by decide +kernel))
theorem dX12_copy_107 : decode cX12_copy 107 = .ok (.getfield 161, 3) := dk_180 (a := 0) (b := 161) (dkn dmcX12_copy (by decide +kernel)) rfl
theorem dX12_copy_110 : decode cX12_copy 110 = .ok (.iload 6, 2) := dk_21 (dkn dmcX12_copy (by decide +kernel))
theorem dX12_copy_112 : decode cX12_copy 112 = .ok (.aload_n 0, 1) := dk_42 (dkn dmcX12_copy (by decide +kernel))
theorem dX12_copy_113 : decode cX12_copy 113 = .ok (.getfield 158, 3) := dk_180 (a := 0) (b := 158) (dkn dmcX12_copy (by decide +kernel)) rfl
theorem dX12_copy_116 : decode cX12_copy 116 = .ok (.bipush 60, 2) := dk_16 (a := 60) (dkn dmcX12_copy (by decide +kernel)) rfl
theorem dX12_copy_118 : decode cX12_copy 118 = .ok (.iload_n 1, 1) := dk_27 (dkn dmcX12_copy (by decide +kernel))
theorem dX12_copy_119 : decode cX12_copy 119 = .ok (.imul, 1) := dk_104 (dkn dmcX12_copy (by decide +kernel))
theorem dX12_copy_120 : decode cX12_copy 120 = .ok (.iload_n 2, 1) := dk_28 (dkn dmcX12_copy (by decide +kernel))
theorem dX12_copy_121 : decode cX12_copy 121 = .ok (.iadd, 1) := dk_96 (dkn dmcX12_copy (by decide +kernel))
theorem dX12_copy_122 : decode cX12_copy 122 = .ok (.iload 6, 2) := dk_21 (dkn dmcX12_copy (by decide +kernel))
theorem dX12_copy_124 : decode cX12_copy 124 = .ok (.iadd, 1) := dk_96 (dkn dmcX12_copy (by decide +kernel))
theorem dX12_copy_125 : decode cX12_copy 125 = .ok (.iaload, 1) := dk_46 (dkn dmcX12_copy (by decide +kernel))
theorem dX12_copy_126 : decode cX12_copy 126 = .ok (.iastore, 1) := dk_79 (dkn dmcX12_copy (by decide +kernel))
theorem dX12_copy_127 : decode cX12_copy 127 = .ok (.iinc 6 1, 3) := dk_132 (b := 1) (dkn dmcX12_copy (by decide +kernel)) rfl
theorem dX12_copy_130 : decode cX12_copy 130 = .ok (.goto (-31), 3) := dk_167 (a := 255) (b := 225) (dkn dmcX12_copy (by decide +kernel)) rfl
theorem dX12_copy_133 : decode cX12_copy 133 = .ok (.iconst 0, 1) := dk_3 (dkn dmcX12_copy (by decide +kernel))
theorem dX12_copy_134 : decode cX12_copy 134 = .ok (.istore 6, 2) := dk_54 (dkn dmcX12_copy (by decide +kernel))
theorem dX12_copy_136 : decode cX12_copy 136 = .ok (.iload 6, 2) := dk_21 (dkn dmcX12_copy (by decide +kernel))
theorem dX12_copy_138 : decode cX12_copy 138 = .ok (.iload 5, 2) := dk_21 (dkn dmcX12_copy (by decide +kernel))
theorem dX12_copy_140 : decode cX12_copy 140 = .ok (.if_icmp .ge 31, 3) := dk_162 (a := 0) (b := 31) (dkn dmcX12_copy (by decide +kernel)) rfl
theorem dX12_copy_143 : decode cX12_copy 143 = .ok (.aload_n 0, 1) := dk_42 (dkn dmcX12_copy (by decide +kernel))
theorem dX12_copy_144 : decode cX12_copy 144 = .ok (.getfield 158, 3) := dk_180 (a := 0) (b := 158) (dkn dmcX12_copy (by decide +kernel)) rfl
theorem dX12_copy_147 : decode cX12_copy 147 = .ok (.bipush 60, 2) := dk_16 (a := 60) (dkn dmcX12_copy (by decide +kernel)) rfl
theorem dX12_copy_149 : decode cX12_copy 149 = .ok (.iload_n 3, 1) := dk_29 (dkn dmcX12_copy (by decide +kernel))
theorem dX12_copy_150 : decode cX12_copy 150 = .ok (.imul, 1) := dk_104 (dkn dmcX12_copy (by decide +kernel))
theorem dX12_copy_151 : decode cX12_copy 151 = .ok (.iload 4, 2) := dk_21 (dkn dmcX12_copy (by decide +kernel))
theorem dX12_copy_153 : decode cX12_copy 153 = .ok (.iadd, 1) := dk_96 (dkn dmcX12_copy (by decide +kernel))
theorem dX12_copy_154 : decode cX12_copy 154 = .ok (.iload 6, 2) := dk_21 (dkn dmcX12_copy (by decide +kernel))
theorem dX12_copy_156 : decode cX12_copy 156 = .ok (.iadd, 1) := dk_96 (dkn dmcX12_copy (by decide +kernel))
theorem dX12_copy_157 : decode cX12_copy 157 = .ok (.aload_n 0, 1) := dk_42 (dkn dmcX12_copy (by decide +kernel))
theorem dX12_copy_158 : decode cX12_copy 158 = .ok (.getfield 161, 3) := dk_180 (a := 0) (b := 161) (dkn dmcX12_copy (by decide +kernel)) rfl
theorem dX12_copy_161 : decode cX12_copy 161 = .ok (.iload 6, 2) := dk_21 (dkn dmcX12_copy (by decide +kernel))
theorem dX12_copy_163 : decode cX12_copy 163 = .ok (.iaload, 1) := dk_46 (dkn dmcX12_copy (by decide +kernel))
theorem dX12_copy_164 : decode cX12_copy 164 = .ok (.iastore, 1) := dk_79 (dkn dmcX12_copy (by decide +kernel))
theorem dX12_copy_165 : decode cX12_copy 165 = .ok (.iinc 6 1, 3) := dk_132 (b := 1) (dkn dmcX12_copy (by decide +kernel)) rfl
theorem dX12_copy_168 : decode cX12_copy 168 = .ok (.goto (-32), 3) := dk_167 (a := 255) (b := 224) (dkn dmcX12_copy (by decide +kernel)) rfl
theorem dX12_copy_171 : decode cX12_copy 171 = .ok (.iload 5, 2) := dk_21 (dkn dmcX12_copy (by decide +kernel))
theorem dX12_copy_173 : decode cX12_copy 173 = .ok (.ireturn, 1) := dk_172 (dkn dmcX12_copy (by decide +kernel))
def dncX12_denied : Nat := 0xac030400a7f4100800a4042e1b9200b42a1300a7f51008009a2e1b9200b42a2100a70207009a7601b81b
theorem dmcX12_denied : dkc dncX12_denied 42 cX12_denied.data.toList 0 = true := by decide +kernel
theorem dX12_denied_0 : decode cX12_denied 0 = .ok (.iload_n 1, 1) := dk_27 (dkn dmcX12_denied (by decide +kernel))
theorem dX12_denied_1 : decode cX12_denied 1 = .ok (.invokestatic 374, 3) := dk_184 (a := 1) (b := 118) (dkn dmcX12_denied (by decide +kernel)) rfl
theorem dX12_denied_4 : decode cX12_denied 4 = .ok (.ifCond .ne 7, 3) := dk_154 (a := 0) (b := 7) (dkn dmcX12_denied (by decide +kernel)) rfl
theorem dX12_denied_7 : decode cX12_denied 7 = .ok (.iconst (-1), 1) := dk_2 (dkn dmcX12_denied (by decide +kernel))
theorem dX12_denied_8 : decode cX12_denied 8 = .ok (.goto 33, 3) := dk_167 (a := 0) (b := 33) (dkn dmcX12_denied (by decide +kernel)) rfl
theorem dX12_denied_11 : decode cX12_denied 11 = .ok (.aload_n 0, 1) := dk_42 (dkn dmcX12_denied (by decide +kernel))
theorem dX12_denied_12 : decode cX12_denied 12 = .ok (.getfield 146, 3) := dk_180 (a := 0) (b := 146) (dkn dmcX12_denied (by decide +kernel)) rfl
theorem dX12_denied_15 : decode cX12_denied 15 = .ok (.iload_n 1, 1) := dk_27 (dkn dmcX12_denied (by decide +kernel))
theorem dX12_denied_16 : decode cX12_denied 16 = .ok (.iaload, 1) := dk_46 (dkn dmcX12_denied (by decide +kernel))
theorem dX12_denied_17 : decode cX12_denied 17 = .ok (.ifCond .ne 8, 3) := dk_154 (a := 0) (b := 8) (dkn dmcX12_denied (by decide +kernel)) rfl
theorem dX12_denied_20 : decode cX12_denied 20 = .ok (.bipush (-11), 2) := dk_16 (a := 245) (dkn dmcX12_denied (by decide +kernel)) rfl
theorem dX12_denied_22 : decode cX12_denied 22 = .ok (.goto 19, 3) := dk_167 (a := 0) (b := 19) (dkn dmcX12_denied (by decide +kernel)) rfl
theorem dX12_denied_25 : decode cX12_denied 25 = .ok (.aload_n 0, 1) := dk_42 (dkn dmcX12_denied (by decide +kernel))
theorem dX12_denied_26 : decode cX12_denied 26 = .ok (.getfield 146, 3) := dk_180 (a := 0) (b := 146) (dkn dmcX12_denied (by decide +kernel)) rfl
theorem dX12_denied_29 : decode cX12_denied 29 = .ok (.iload_n 1, 1) := dk_27 (dkn dmcX12_denied (by decide +kernel))
theorem dX12_denied_30 : decode cX12_denied 30 = .ok (.iaload, 1) := dk_46 (dkn dmcX12_denied (by decide +kernel))
theorem dX12_denied_31 : decode cX12_denied 31 = .ok (.iconst 1, 1) := dk_4 (dkn dmcX12_denied (by decide +kernel))
theorem dX12_denied_32 : decode cX12_denied 32 = .ok (.if_icmp .le 8, 3) := dk_164 (a := 0) (b := 8) (dkn dmcX12_denied (by decide +kernel)) rfl
theorem dX12_denied_35 : decode cX12_denied 35 = .ok (.bipush (-12), 2) := dk_16 (a := 244) (dkn dmcX12_denied (by decide +kernel)) rfl
theorem dX12_denied_37 : decode cX12_denied 37 = .ok (.goto 4, 3) := dk_167 (a := 0) (b := 4) (dkn dmcX12_denied (by decide +kernel)) rfl
theorem dX12_denied_40 : decode cX12_denied 40 = .ok (.iconst 0, 1) := dk_3 (dkn dmcX12_denied (by decide +kernel))
theorem dX12_denied_41 : decode cX12_denied 41 = .ok (.ireturn, 1) := dk_172 (dkn dmcX12_denied (by decide +kernel))
def dncX12_weight : Nat := 0xac686064101d050900a76064101d0a00a0052e1b9b00b42a1a00a760682e1b9500b42a0a101d1100a0042e1b9b00b42a3e60042e1b9800b42aac1c05009c1c3d7c01b61b2aa400b5032a
theorem dmcX12_weight : dkc dncX12_weight 74 cX12_weight.data.toList 0 = true := by decide +kernel
theorem dX12_weight_0 : decode cX12_weight 0 = .ok (.aload_n 0, 1) := dk_42 (dkn dmcX12_weight (by decide +kernel))
theorem dX12_weight_1 : decode cX12_weight 1 = .ok (.iconst 0, 1) := dk_3 (dkn dmcX12_weight (by decide +kernel))
theorem dX12_weight_2 : decode cX12_weight 2 = .ok (.putfield 164, 3) := dk_181 (a := 0) (b := 164) (dkn dmcX12_weight (by decide +kernel)) rfl
theorem dX12_weight_5 : decode cX12_weight 5 = .ok (.aload_n 0, 1) := dk_42 (dkn dmcX12_weight (by decide +kernel))
theorem dX12_weight_6 : decode cX12_weight 6 = .ok (.iload_n 1, 1) := dk_27 (dkn dmcX12_weight (by decide +kernel))
theorem dX12_weight_7 : decode cX12_weight 7 = .ok (.invokevirtual 380, 3) := dk_182 (a := 1) (b := 124) (dkn dmcX12_weight (by decide +kernel)) rfl
theorem dX12_weight_10 : decode cX12_weight 10 = .ok (.istore_n 2, 1) := dk_61 (dkn dmcX12_weight (by decide +kernel))
theorem dX12_weight_11 : decode cX12_weight 11 = .ok (.iload_n 2, 1) := dk_28 (dkn dmcX12_weight (by decide +kernel))
theorem dX12_weight_12 : decode cX12_weight 12 = .ok (.ifCond .ge 5, 3) := dk_156 (a := 0) (b := 5) (dkn dmcX12_weight (by decide +kernel)) rfl
theorem dX12_weight_15 : decode cX12_weight 15 = .ok (.iload_n 2, 1) := dk_28 (dkn dmcX12_weight (by decide +kernel))
theorem dX12_weight_16 : decode cX12_weight 16 = .ok (.ireturn, 1) := dk_172 (dkn dmcX12_weight (by decide +kernel))
theorem dX12_weight_17 : decode cX12_weight 17 = .ok (.aload_n 0, 1) := dk_42 (dkn dmcX12_weight (by decide +kernel))
theorem dX12_weight_18 : decode cX12_weight 18 = .ok (.getfield 152, 3) := dk_180 (a := 0) (b := 152) (dkn dmcX12_weight (by decide +kernel)) rfl
theorem dX12_weight_21 : decode cX12_weight 21 = .ok (.iload_n 1, 1) := dk_27 (dkn dmcX12_weight (by decide +kernel))
theorem dX12_weight_22 : decode cX12_weight 22 = .ok (.iaload, 1) := dk_46 (dkn dmcX12_weight (by decide +kernel))
theorem dX12_weight_23 : decode cX12_weight 23 = .ok (.iconst 1, 1) := dk_4 (dkn dmcX12_weight (by decide +kernel))
theorem dX12_weight_24 : decode cX12_weight 24 = .ok (.iadd, 1) := dk_96 (dkn dmcX12_weight (by decide +kernel))
theorem dX12_weight_25 : decode cX12_weight 25 = .ok (.istore_n 3, 1) := dk_62 (dkn dmcX12_weight (by decide +kernel))
theorem dX12_weight_26 : decode cX12_weight 26 = .ok (.aload_n 0, 1) := dk_42 (dkn dmcX12_weight (by decide +kernel))
theorem dX12_weight_27 : decode cX12_weight 27 = .ok (.getfield 155, 3) := dk_180 (a := 0) (b := 155) (dkn dmcX12_weight (by decide +kernel)) rfl
theorem dX12_weight_30 : decode cX12_weight 30 = .ok (.iload_n 1, 1) := dk_27 (dkn dmcX12_weight (by decide +kernel))
theorem dX12_weight_31 : decode cX12_weight 31 = .ok (.iaload, 1) := dk_46 (dkn dmcX12_weight (by decide +kernel))
theorem dX12_weight_32 : decode cX12_weight 32 = .ok (.iconst 1, 1) := dk_4 (dkn dmcX12_weight (by decide +kernel))
theorem dX12_weight_33 : decode cX12_weight 33 = .ok (.if_icmp .ne 17, 3) := dk_160 (a := 0) (b := 17) (dkn dmcX12_weight (by decide +kernel)) rfl
theorem dX12_weight_36 : decode cX12_weight 36 = .ok (.iload_n 3, 1) := dk_29 (dkn dmcX12_weight (by decide +kernel))
theorem dX12_weight_37 : decode cX12_weight 37 = .ok (.bipush 10, 2) := dk_16 (a := 10) (dkn dmcX12_weight (by decide +kernel)) rfl
theorem dX12_weight_39 : decode cX12_weight 39 = .ok (.aload_n 0, 1) := dk_42 (dkn dmcX12_weight (by decide +kernel))
theorem dX12_weight_40 : decode cX12_weight 40 = .ok (.getfield 149, 3) := dk_180 (a := 0) (b := 149) (dkn dmcX12_weight (by decide +kernel)) rfl
theorem dX12_weight_43 : decode cX12_weight 43 = .ok (.iload_n 1, 1) := dk_27 (dkn dmcX12_weight (by decide +kernel))
theorem dX12_weight_44 : decode cX12_weight 44 = .ok (.iaload, 1) := dk_46 (dkn dmcX12_weight (by decide +kernel))
theorem dX12_weight_45 : decode cX12_weight 45 = .ok (.imul, 1) := dk_104 (dkn dmcX12_weight (by decide +kernel))
theorem dX12_weight_46 : decode cX12_weight 46 = .ok (.iadd, 1) := dk_96 (dkn dmcX12_weight (by decide +kernel))
theorem dX12_weight_47 : decode cX12_weight 47 = .ok (.goto 26, 3) := dk_167 (a := 0) (b := 26) (dkn dmcX12_weight (by decide +kernel)) rfl
theorem dX12_weight_50 : decode cX12_weight 50 = .ok (.aload_n 0, 1) := dk_42 (dkn dmcX12_weight (by decide +kernel))
theorem dX12_weight_51 : decode cX12_weight 51 = .ok (.getfield 155, 3) := dk_180 (a := 0) (b := 155) (dkn dmcX12_weight (by decide +kernel)) rfl
theorem dX12_weight_54 : decode cX12_weight 54 = .ok (.iload_n 1, 1) := dk_27 (dkn dmcX12_weight (by decide +kernel))
theorem dX12_weight_55 : decode cX12_weight 55 = .ok (.iaload, 1) := dk_46 (dkn dmcX12_weight (by decide +kernel))
theorem dX12_weight_56 : decode cX12_weight 56 = .ok (.iconst 2, 1) := dk_5 (dkn dmcX12_weight (by decide +kernel))
theorem dX12_weight_57 : decode cX12_weight 57 = .ok (.if_icmp .ne 10, 3) := dk_160 (a := 0) (b := 10) (dkn dmcX12_weight (by decide +kernel)) rfl
theorem dX12_weight_60 : decode cX12_weight 60 = .ok (.iload_n 3, 1) := dk_29 (dkn dmcX12_weight (by decide +kernel))
theorem dX12_weight_61 : decode cX12_weight 61 = .ok (.bipush 100, 2) := dk_16 (a := 100) (dkn dmcX12_weight (by decide +kernel)) rfl
theorem dX12_weight_63 : decode cX12_weight 63 = .ok (.iadd, 1) := dk_96 (dkn dmcX12_weight (by decide +kernel))
theorem dX12_weight_64 : decode cX12_weight 64 = .ok (.goto 9, 3) := dk_167 (a := 0) (b := 9) (dkn dmcX12_weight (by decide +kernel)) rfl
theorem dX12_weight_67 : decode cX12_weight 67 = .ok (.iconst 2, 1) := dk_5 (dkn dmcX12_weight (by decide +kernel))
theorem dX12_weight_68 : decode cX12_weight 68 = .ok (.iload_n 3, 1) := dk_29 (dkn dmcX12_weight (by decide +kernel))
theorem dX12_weight_69 : decode cX12_weight 69 = .ok (.bipush 100, 2) := dk_16 (a := 100) (dkn dmcX12_weight (by decide +kernel)) rfl
theorem dX12_weight_71 : decode cX12_weight 71 = .ok (.iadd, 1) := dk_96 (dkn dmcX12_weight (by decide +kernel))
theorem dX12_weight_72 : decode cX12_weight 72 = .ok (.imul, 1) := dk_104 (dkn dmcX12_weight (by decide +kernel))
theorem dX12_weight_73 : decode cX12_weight 73 = .ok (.ireturn, 1) := dk_172 (dkn dmcX12_weight (by decide +kernel))
def dncX12_toss : Nat := 0xac2e1b9800b42a0900a7f1100800a0042e1b9b00b42a1800a71c07009c1c3d7c01b61b2aa400b5032a
theorem dmcX12_toss : dkc dncX12_toss 41 cX12_toss.data.toList 0 = true := by decide +kernel
theorem dX12_toss_0 : decode cX12_toss 0 = .ok (.aload_n 0, 1) := dk_42 (dkn dmcX12_toss (by decide +kernel))
theorem dX12_toss_1 : decode cX12_toss 1 = .ok (.iconst 0, 1) := dk_3 (dkn dmcX12_toss (by decide +kernel))
theorem dX12_toss_2 : decode cX12_toss 2 = .ok (.putfield 164, 3) := dk_181 (a := 0) (b := 164) (dkn dmcX12_toss (by decide +kernel)) rfl
theorem dX12_toss_5 : decode cX12_toss 5 = .ok (.aload_n 0, 1) := dk_42 (dkn dmcX12_toss (by decide +kernel))
theorem dX12_toss_6 : decode cX12_toss 6 = .ok (.iload_n 1, 1) := dk_27 (dkn dmcX12_toss (by decide +kernel))
theorem dX12_toss_7 : decode cX12_toss 7 = .ok (.invokevirtual 380, 3) := dk_182 (a := 1) (b := 124) (dkn dmcX12_toss (by decide +kernel)) rfl
theorem dX12_toss_10 : decode cX12_toss 10 = .ok (.istore_n 2, 1) := dk_61 (dkn dmcX12_toss (by decide +kernel))
theorem dX12_toss_11 : decode cX12_toss 11 = .ok (.iload_n 2, 1) := dk_28 (dkn dmcX12_toss (by decide +kernel))
theorem dX12_toss_12 : decode cX12_toss 12 = .ok (.ifCond .ge 7, 3) := dk_156 (a := 0) (b := 7) (dkn dmcX12_toss (by decide +kernel)) rfl
theorem dX12_toss_15 : decode cX12_toss 15 = .ok (.iload_n 2, 1) := dk_28 (dkn dmcX12_toss (by decide +kernel))
theorem dX12_toss_16 : decode cX12_toss 16 = .ok (.goto 24, 3) := dk_167 (a := 0) (b := 24) (dkn dmcX12_toss (by decide +kernel)) rfl
theorem dX12_toss_19 : decode cX12_toss 19 = .ok (.aload_n 0, 1) := dk_42 (dkn dmcX12_toss (by decide +kernel))
theorem dX12_toss_20 : decode cX12_toss 20 = .ok (.getfield 155, 3) := dk_180 (a := 0) (b := 155) (dkn dmcX12_toss (by decide +kernel)) rfl
theorem dX12_toss_23 : decode cX12_toss 23 = .ok (.iload_n 1, 1) := dk_27 (dkn dmcX12_toss (by decide +kernel))
theorem dX12_toss_24 : decode cX12_toss 24 = .ok (.iaload, 1) := dk_46 (dkn dmcX12_toss (by decide +kernel))
theorem dX12_toss_25 : decode cX12_toss 25 = .ok (.iconst 1, 1) := dk_4 (dkn dmcX12_toss (by decide +kernel))
theorem dX12_toss_26 : decode cX12_toss 26 = .ok (.if_icmp .ne 8, 3) := dk_160 (a := 0) (b := 8) (dkn dmcX12_toss (by decide +kernel)) rfl
theorem dX12_toss_29 : decode cX12_toss 29 = .ok (.bipush (-15), 2) := dk_16 (a := 241) (dkn dmcX12_toss (by decide +kernel)) rfl
theorem dX12_toss_31 : decode cX12_toss 31 = .ok (.goto 9, 3) := dk_167 (a := 0) (b := 9) (dkn dmcX12_toss (by decide +kernel)) rfl
theorem dX12_toss_34 : decode cX12_toss 34 = .ok (.aload_n 0, 1) := dk_42 (dkn dmcX12_toss (by decide +kernel))
theorem dX12_toss_35 : decode cX12_toss 35 = .ok (.getfield 152, 3) := dk_180 (a := 0) (b := 152) (dkn dmcX12_toss (by decide +kernel)) rfl
theorem dX12_toss_38 : decode cX12_toss 38 = .ok (.iload_n 1, 1) := dk_27 (dkn dmcX12_toss (by decide +kernel))
theorem dX12_toss_39 : decode cX12_toss 39 = .ok (.iaload, 1) := dk_46 (dkn dmcX12_toss (by decide +kernel))
theorem dX12_toss_40 : decode cX12_toss 40 = .ok (.ireturn, 1) := dk_172 (dkn dmcX12_toss (by decide +kernel))
end MG_07_mdec2
section MG_07_z
theorem j_vl {X : fj_X} {Y : fj_Y} {ad : Nat → Nat} {n : Nat} {S : ph_S} {h : ph_H} {pc : Nat} {lv lv' : List (Nat × Value)} {st : List Value} (k : FJ X Y ad n S h pc lv' st) (hs : lx_le lv' lv) : FJ X Y ad n S h pc lv st := j_lv hs k
theorem hz_k {h : ph_H} {k i k' i' : Nat} {v : Int32} (q : Nat.beq k' k = false) : hs h k i v k' i' = h k' i' := by
  have e : k' ≠ k := fun z => by subst z; rw [Nat.beq_refl] at q; exact absurd q (by decide)
  unfold hs
  rw [va_up_ne _ _ e]
theorem hz_i {h : ph_H} {k i i' : Nat} {v : Int32} (q : Nat.beq i' i = false) : hs h k i v k i' = h k i' := by
  have e : i' ≠ i := fun z => by subst z; rw [Nat.beq_refl] at q; exact absurd q (by decide)
  unfold hs
  rw [va_up_self]
  simp [upd, e]
theorem hz_e {h : ph_H} {k i : Nat} {v : Int32} : hs h k i v k i = v := by
  unfold hs
  rw [va_up_self]
  simp [upd]
end MG_07_z
