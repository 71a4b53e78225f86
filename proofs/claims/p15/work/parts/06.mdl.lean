/-! THE REFERENCE: place 0 its object, places 1 .. 49 its rows, as its fields come. -/
def rfM : Nat → Option (Option Nat) := fun j => match j with
  | 1 => some (some 1)
  | 2 => some (some 2)
  | 3 => some (some 3)
  | 4 => some (some 4)
  | 5 => some (some 5)
  | 6 => some (some 6)
  | 8 => some (some 7)
  | 10 => some (some 8)
  | 11 => some (some 9)
  | 12 => some (some 10)
  | 13 => some (some 11)
  | 14 => some (some 12)
  | 15 => some (some 13)
  | 16 => some (some 14)
  | 17 => some (some 15)
  | 19 => some (some 16)
  | 20 => some (some 17)
  | 21 => some (some 18)
  | 22 => some (some 19)
  | 43 => some (some 20)
  | 44 => some (some 21)
  | 45 => some (some 22)
  | 46 => some (some 23)
  | 47 => some (some 24)
  | 48 => some (some 25)
  | 49 => some (some 26)
  | 50 => some (some 27)
  | 51 => some (some 28)
  | 52 => some (some 29)
  | 53 => some (some 30)
  | 54 => some (some 31)
  | 55 => some (some 32)
  | 56 => some (some 33)
  | 57 => some (some 34)
  | 58 => some (some 35)
  | 59 => some (some 36)
  | 61 => some (some 37)
  | 62 => some (some 38)
  | 63 => some (some 39)
  | 71 => some (some 40)
  | 72 => some (some 41)
  | 75 => some (some 42)
  | 76 => some (some 43)
  | 77 => some (some 44)
  | 78 => some (some 45)
  | 79 => some (some 46)
  | 80 => some (some 47)
  | 81 => some (some 48)
  | 82 => some (some 49)
  | _ => none
def SM : ph_S := fun k => match k with
  | 0 => .inr (.inl (11, 83, rfM))
  | 1 => .inl (0, 4)
  | 2 => .inl (0, 96)
  | 3 => .inl (0, 96)
  | 4 => .inl (0, 96)
  | 5 => .inl (0, 96)
  | 6 => .inl (0, 12)
  | 7 => .inl (0, 30)
  | 8 => .inl (0, 40)
  | 9 => .inl (0, 40)
  | 10 => .inl (0, 28)
  | 11 => .inl (0, 28)
  | 12 => .inl (0, 4)
  | 13 => .inl (1, 4)
  | 14 => .inl (0, 4)
  | 15 => .inl (0, 4)
  | 16 => .inl (0, 12)
  | 17 => .inl (0, 12)
  | 18 => .inl (0, 12)
  | 19 => .inl (0, 192)
  | 20 => .inl (0, 8428)
  | 21 => .inl (0, 8428)
  | 22 => .inl (0, 1204)
  | 23 => .inl (0, 1204)
  | 24 => .inl (0, 301)
  | 25 => .inl (0, 3612)
  | 26 => .inl (0, 3612)
  | 27 => .inl (0, 3612)
  | 28 => .inl (0, 57792)
  | 29 => .inl (0, 301)
  | 30 => .inl (0, 301)
  | 31 => .inl (0, 301)
  | 32 => .inl (0, 301)
  | 33 => .inl (0, 301)
  | 34 => .inl (0, 301)
  | 35 => .inl (0, 301)
  | 36 => .inl (0, 30)
  | 37 => .inl (0, 301)
  | 38 => .inl (0, 301)
  | 39 => .inl (1, 90601)
  | 40 => .inl (0, 2)
  | 41 => .inl (0, 2)
  | 42 => .inl (0, 2)
  | 43 => .inl (0, 2)
  | 44 => .inl (0, 8)
  | 45 => .inl (0, 8)
  | 46 => .inl (0, 8)
  | 47 => .inl (0, 8)
  | 48 => .inl (0, 480)
  | 49 => .inl (0, 60)
  | _ => .inl (0, 0)
set_option maxRecDepth 100000 in
theorem inM : ∀ w ∈ u_ws RX12 TX12 83, w ∈ TW := TW_lays [1202, 1204, 1206, 1208, 1210, 1212, 1214, 1216, 1218, 1220, 1222, 1224, 1226, 1228, 1230, 1232, 1234, 1236, 1238, 1240, 1242, 1244, 1246, 1248, 1250, 1252, 1254, 1256, 1258, 1260, 1262, 1264, 1266, 1268, 1270, 1272, 1274, 1276, 1278, 1280, 1282, 1284, 1286, 1288, 1290, 1292, 1294, 1296, 1298, 1300, 1302, 1304, 1306, 1308, 1310, 1312, 1314, 1316, 1318, 1320, 1322, 1324, 1326, 1328, 1330, 1332, 1334, 1336, 1338, 1340, 1342, 1344, 1346, 1348, 1350, 1352, 1354, 1356, 1358, 1360, 1362, 1364, 1366] (by decide +kernel)
section MF
variable {X : fj_X} {Y : fj_Y} {l0 : Launch} {cc : ByteArray} {nL : Nat} {rm : Room} {mc ms : Nat} {ret : Option FieldType} {ad : Nat → Nat} {h : ph_H} {pc : Nat} {lv : List (Nat × Value)} {st : List Value}
theorem lf_7 : Cond.fieldLink RX12 7 (TX12 1).1 (TX12 1).2.1 (TX12 1).2.2.1 ∈ TW := (TWt 1121 (by decide +kernel) (by decide +kernel))
theorem gM_7 (C : FC X Y l0 cc nL RX12 rm mc ms ret) (hd : decode cc pc = .ok (.getfield 7, 3)) (k : FJ X Y ad 50 SM h (pc + 3) lv (.ref (ad 1) :: st)) : FJ X Y ad 50 SM h pc lv (.ref (ad 0) :: st) := j_get (j := 1) C hd (by decide) rfl rfl inM (by decide) lf_7 rfl rfl k
theorem lf_13 : Cond.fieldLink RX12 13 (TX12 2).1 (TX12 2).2.1 (TX12 2).2.2.1 ∈ TW := (TWt 1122 (by decide +kernel) (by decide +kernel))
theorem gM_13 (C : FC X Y l0 cc nL RX12 rm mc ms ret) (hd : decode cc pc = .ok (.getfield 13, 3)) (k : FJ X Y ad 50 SM h (pc + 3) lv (.ref (ad 2) :: st)) : FJ X Y ad 50 SM h pc lv (.ref (ad 0) :: st) := j_get (j := 2) C hd (by decide) rfl rfl inM (by decide) lf_13 rfl rfl k
theorem lf_16 : Cond.fieldLink RX12 16 (TX12 3).1 (TX12 3).2.1 (TX12 3).2.2.1 ∈ TW := (TWt 1123 (by decide +kernel) (by decide +kernel))
theorem gM_16 (C : FC X Y l0 cc nL RX12 rm mc ms ret) (hd : decode cc pc = .ok (.getfield 16, 3)) (k : FJ X Y ad 50 SM h (pc + 3) lv (.ref (ad 3) :: st)) : FJ X Y ad 50 SM h pc lv (.ref (ad 0) :: st) := j_get (j := 3) C hd (by decide) rfl rfl inM (by decide) lf_16 rfl rfl k
theorem lf_19 : Cond.fieldLink RX12 19 (TX12 4).1 (TX12 4).2.1 (TX12 4).2.2.1 ∈ TW := (TWt 1124 (by decide +kernel) (by decide +kernel))
theorem gM_19 (C : FC X Y l0 cc nL RX12 rm mc ms ret) (hd : decode cc pc = .ok (.getfield 19, 3)) (k : FJ X Y ad 50 SM h (pc + 3) lv (.ref (ad 4) :: st)) : FJ X Y ad 50 SM h pc lv (.ref (ad 0) :: st) := j_get (j := 4) C hd (by decide) rfl rfl inM (by decide) lf_19 rfl rfl k
theorem lf_22 : Cond.fieldLink RX12 22 (TX12 5).1 (TX12 5).2.1 (TX12 5).2.2.1 ∈ TW := (TWt 1125 (by decide +kernel) (by decide +kernel))
theorem gM_22 (C : FC X Y l0 cc nL RX12 rm mc ms ret) (hd : decode cc pc = .ok (.getfield 22, 3)) (k : FJ X Y ad 50 SM h (pc + 3) lv (.ref (ad 5) :: st)) : FJ X Y ad 50 SM h pc lv (.ref (ad 0) :: st) := j_get (j := 5) C hd (by decide) rfl rfl inM (by decide) lf_22 rfl rfl k
theorem lf_25 : Cond.fieldLink RX12 25 (TX12 6).1 (TX12 6).2.1 (TX12 6).2.2.1 ∈ TW := (TWt 1126 (by decide +kernel) (by decide +kernel))
theorem gM_25 (C : FC X Y l0 cc nL RX12 rm mc ms ret) (hd : decode cc pc = .ok (.getfield 25, 3)) (k : FJ X Y ad 50 SM h (pc + 3) lv (.ref (ad 6) :: st)) : FJ X Y ad 50 SM h pc lv (.ref (ad 0) :: st) := j_get (j := 6) C hd (by decide) rfl rfl inM (by decide) lf_25 rfl rfl k
theorem lf_28 : Cond.fieldLink RX12 28 (TX12 8).1 (TX12 8).2.1 (TX12 8).2.2.1 ∈ TW := (TWt 1128 (by decide +kernel) (by decide +kernel))
theorem gM_28 (C : FC X Y l0 cc nL RX12 rm mc ms ret) (hd : decode cc pc = .ok (.getfield 28, 3)) (k : FJ X Y ad 50 SM h (pc + 3) lv (.ref (ad 7) :: st)) : FJ X Y ad 50 SM h pc lv (.ref (ad 0) :: st) := j_get (j := 8) C hd (by decide) rfl rfl inM (by decide) lf_28 rfl rfl k
theorem lf_31 : Cond.fieldLink RX12 31 (TX12 10).1 (TX12 10).2.1 (TX12 10).2.2.1 ∈ TW := (TWt 1130 (by decide +kernel) (by decide +kernel))
theorem gM_31 (C : FC X Y l0 cc nL RX12 rm mc ms ret) (hd : decode cc pc = .ok (.getfield 31, 3)) (k : FJ X Y ad 50 SM h (pc + 3) lv (.ref (ad 8) :: st)) : FJ X Y ad 50 SM h pc lv (.ref (ad 0) :: st) := j_get (j := 10) C hd (by decide) rfl rfl inM (by decide) lf_31 rfl rfl k
theorem lf_34 : Cond.fieldLink RX12 34 (TX12 11).1 (TX12 11).2.1 (TX12 11).2.2.1 ∈ TW := (TWt 1131 (by decide +kernel) (by decide +kernel))
theorem gM_34 (C : FC X Y l0 cc nL RX12 rm mc ms ret) (hd : decode cc pc = .ok (.getfield 34, 3)) (k : FJ X Y ad 50 SM h (pc + 3) lv (.ref (ad 9) :: st)) : FJ X Y ad 50 SM h pc lv (.ref (ad 0) :: st) := j_get (j := 11) C hd (by decide) rfl rfl inM (by decide) lf_34 rfl rfl k
theorem lf_37 : Cond.fieldLink RX12 37 (TX12 12).1 (TX12 12).2.1 (TX12 12).2.2.1 ∈ TW := (TWt 1132 (by decide +kernel) (by decide +kernel))
theorem gM_37 (C : FC X Y l0 cc nL RX12 rm mc ms ret) (hd : decode cc pc = .ok (.getfield 37, 3)) (k : FJ X Y ad 50 SM h (pc + 3) lv (.ref (ad 10) :: st)) : FJ X Y ad 50 SM h pc lv (.ref (ad 0) :: st) := j_get (j := 12) C hd (by decide) rfl rfl inM (by decide) lf_37 rfl rfl k
theorem lf_40 : Cond.fieldLink RX12 40 (TX12 13).1 (TX12 13).2.1 (TX12 13).2.2.1 ∈ TW := (TWt 1133 (by decide +kernel) (by decide +kernel))
theorem gM_40 (C : FC X Y l0 cc nL RX12 rm mc ms ret) (hd : decode cc pc = .ok (.getfield 40, 3)) (k : FJ X Y ad 50 SM h (pc + 3) lv (.ref (ad 11) :: st)) : FJ X Y ad 50 SM h pc lv (.ref (ad 0) :: st) := j_get (j := 13) C hd (by decide) rfl rfl inM (by decide) lf_40 rfl rfl k
theorem lf_43 : Cond.fieldLink RX12 43 (TX12 14).1 (TX12 14).2.1 (TX12 14).2.2.1 ∈ TW := (TWt 1134 (by decide +kernel) (by decide +kernel))
theorem gM_43 (C : FC X Y l0 cc nL RX12 rm mc ms ret) (hd : decode cc pc = .ok (.getfield 43, 3)) (k : FJ X Y ad 50 SM h (pc + 3) lv (.ref (ad 12) :: st)) : FJ X Y ad 50 SM h pc lv (.ref (ad 0) :: st) := j_get (j := 14) C hd (by decide) rfl rfl inM (by decide) lf_43 rfl rfl k
theorem lf_46 : Cond.fieldLink RX12 46 (TX12 15).1 (TX12 15).2.1 (TX12 15).2.2.1 ∈ TW := (TWt 1135 (by decide +kernel) (by decide +kernel))
theorem gM_46 (C : FC X Y l0 cc nL RX12 rm mc ms ret) (hd : decode cc pc = .ok (.getfield 46, 3)) (k : FJ X Y ad 50 SM h (pc + 3) lv (.ref (ad 13) :: st)) : FJ X Y ad 50 SM h pc lv (.ref (ad 0) :: st) := j_get (j := 15) C hd (by decide) rfl rfl inM (by decide) lf_46 rfl rfl k
theorem lf_50 : Cond.fieldLink RX12 50 (TX12 16).1 (TX12 16).2.1 (TX12 16).2.2.1 ∈ TW := (TWt 1136 (by decide +kernel) (by decide +kernel))
theorem gM_50 (C : FC X Y l0 cc nL RX12 rm mc ms ret) (hd : decode cc pc = .ok (.getfield 50, 3)) (k : FJ X Y ad 50 SM h (pc + 3) lv (.ref (ad 14) :: st)) : FJ X Y ad 50 SM h pc lv (.ref (ad 0) :: st) := j_get (j := 16) C hd (by decide) rfl rfl inM (by decide) lf_50 rfl rfl k
theorem lf_53 : Cond.fieldLink RX12 53 (TX12 17).1 (TX12 17).2.1 (TX12 17).2.2.1 ∈ TW := (TWt 1137 (by decide +kernel) (by decide +kernel))
theorem gM_53 (C : FC X Y l0 cc nL RX12 rm mc ms ret) (hd : decode cc pc = .ok (.getfield 53, 3)) (k : FJ X Y ad 50 SM h (pc + 3) lv (.ref (ad 15) :: st)) : FJ X Y ad 50 SM h pc lv (.ref (ad 0) :: st) := j_get (j := 17) C hd (by decide) rfl rfl inM (by decide) lf_53 rfl rfl k
theorem lf_56 : Cond.fieldLink RX12 56 (TX12 19).1 (TX12 19).2.1 (TX12 19).2.2.1 ∈ TW := (TWt 1139 (by decide +kernel) (by decide +kernel))
theorem gM_56 (C : FC X Y l0 cc nL RX12 rm mc ms ret) (hd : decode cc pc = .ok (.getfield 56, 3)) (k : FJ X Y ad 50 SM h (pc + 3) lv (.ref (ad 16) :: st)) : FJ X Y ad 50 SM h pc lv (.ref (ad 0) :: st) := j_get (j := 19) C hd (by decide) rfl rfl inM (by decide) lf_56 rfl rfl k
theorem lf_59 : Cond.fieldLink RX12 59 (TX12 20).1 (TX12 20).2.1 (TX12 20).2.2.1 ∈ TW := (TWt 1140 (by decide +kernel) (by decide +kernel))
theorem gM_59 (C : FC X Y l0 cc nL RX12 rm mc ms ret) (hd : decode cc pc = .ok (.getfield 59, 3)) (k : FJ X Y ad 50 SM h (pc + 3) lv (.ref (ad 17) :: st)) : FJ X Y ad 50 SM h pc lv (.ref (ad 0) :: st) := j_get (j := 20) C hd (by decide) rfl rfl inM (by decide) lf_59 rfl rfl k
theorem lf_62 : Cond.fieldLink RX12 62 (TX12 21).1 (TX12 21).2.1 (TX12 21).2.2.1 ∈ TW := (TWt 1141 (by decide +kernel) (by decide +kernel))
theorem gM_62 (C : FC X Y l0 cc nL RX12 rm mc ms ret) (hd : decode cc pc = .ok (.getfield 62, 3)) (k : FJ X Y ad 50 SM h (pc + 3) lv (.ref (ad 18) :: st)) : FJ X Y ad 50 SM h pc lv (.ref (ad 0) :: st) := j_get (j := 21) C hd (by decide) rfl rfl inM (by decide) lf_62 rfl rfl k
theorem lf_65 : Cond.fieldLink RX12 65 (TX12 22).1 (TX12 22).2.1 (TX12 22).2.2.1 ∈ TW := (TWt 1142 (by decide +kernel) (by decide +kernel))
theorem gM_65 (C : FC X Y l0 cc nL RX12 rm mc ms ret) (hd : decode cc pc = .ok (.getfield 65, 3)) (k : FJ X Y ad 50 SM h (pc + 3) lv (.ref (ad 19) :: st)) : FJ X Y ad 50 SM h pc lv (.ref (ad 0) :: st) := j_get (j := 22) C hd (by decide) rfl rfl inM (by decide) lf_65 rfl rfl k
theorem lf_68 : Cond.fieldLink RX12 68 (TX12 43).1 (TX12 43).2.1 (TX12 43).2.2.1 ∈ TW := (TWt 1163 (by decide +kernel) (by decide +kernel))
theorem gM_68 (C : FC X Y l0 cc nL RX12 rm mc ms ret) (hd : decode cc pc = .ok (.getfield 68, 3)) (k : FJ X Y ad 50 SM h (pc + 3) lv (.ref (ad 20) :: st)) : FJ X Y ad 50 SM h pc lv (.ref (ad 0) :: st) := j_get (j := 43) C hd (by decide) rfl rfl inM (by decide) lf_68 rfl rfl k
theorem lf_71 : Cond.fieldLink RX12 71 (TX12 44).1 (TX12 44).2.1 (TX12 44).2.2.1 ∈ TW := (TWt 1164 (by decide +kernel) (by decide +kernel))
theorem gM_71 (C : FC X Y l0 cc nL RX12 rm mc ms ret) (hd : decode cc pc = .ok (.getfield 71, 3)) (k : FJ X Y ad 50 SM h (pc + 3) lv (.ref (ad 21) :: st)) : FJ X Y ad 50 SM h pc lv (.ref (ad 0) :: st) := j_get (j := 44) C hd (by decide) rfl rfl inM (by decide) lf_71 rfl rfl k
theorem lf_74 : Cond.fieldLink RX12 74 (TX12 45).1 (TX12 45).2.1 (TX12 45).2.2.1 ∈ TW := (TWt 1165 (by decide +kernel) (by decide +kernel))
theorem gM_74 (C : FC X Y l0 cc nL RX12 rm mc ms ret) (hd : decode cc pc = .ok (.getfield 74, 3)) (k : FJ X Y ad 50 SM h (pc + 3) lv (.ref (ad 22) :: st)) : FJ X Y ad 50 SM h pc lv (.ref (ad 0) :: st) := j_get (j := 45) C hd (by decide) rfl rfl inM (by decide) lf_74 rfl rfl k
theorem lf_77 : Cond.fieldLink RX12 77 (TX12 46).1 (TX12 46).2.1 (TX12 46).2.2.1 ∈ TW := (TWt 1166 (by decide +kernel) (by decide +kernel))
theorem gM_77 (C : FC X Y l0 cc nL RX12 rm mc ms ret) (hd : decode cc pc = .ok (.getfield 77, 3)) (k : FJ X Y ad 50 SM h (pc + 3) lv (.ref (ad 23) :: st)) : FJ X Y ad 50 SM h pc lv (.ref (ad 0) :: st) := j_get (j := 46) C hd (by decide) rfl rfl inM (by decide) lf_77 rfl rfl k
theorem lf_80 : Cond.fieldLink RX12 80 (TX12 47).1 (TX12 47).2.1 (TX12 47).2.2.1 ∈ TW := (TWt 1167 (by decide +kernel) (by decide +kernel))
theorem gM_80 (C : FC X Y l0 cc nL RX12 rm mc ms ret) (hd : decode cc pc = .ok (.getfield 80, 3)) (k : FJ X Y ad 50 SM h (pc + 3) lv (.ref (ad 24) :: st)) : FJ X Y ad 50 SM h pc lv (.ref (ad 0) :: st) := j_get (j := 47) C hd (by decide) rfl rfl inM (by decide) lf_80 rfl rfl k
theorem lf_83 : Cond.fieldLink RX12 83 (TX12 48).1 (TX12 48).2.1 (TX12 48).2.2.1 ∈ TW := (TWt 1168 (by decide +kernel) (by decide +kernel))
theorem gM_83 (C : FC X Y l0 cc nL RX12 rm mc ms ret) (hd : decode cc pc = .ok (.getfield 83, 3)) (k : FJ X Y ad 50 SM h (pc + 3) lv (.ref (ad 25) :: st)) : FJ X Y ad 50 SM h pc lv (.ref (ad 0) :: st) := j_get (j := 48) C hd (by decide) rfl rfl inM (by decide) lf_83 rfl rfl k
theorem lf_86 : Cond.fieldLink RX12 86 (TX12 49).1 (TX12 49).2.1 (TX12 49).2.2.1 ∈ TW := (TWt 1169 (by decide +kernel) (by decide +kernel))
theorem gM_86 (C : FC X Y l0 cc nL RX12 rm mc ms ret) (hd : decode cc pc = .ok (.getfield 86, 3)) (k : FJ X Y ad 50 SM h (pc + 3) lv (.ref (ad 26) :: st)) : FJ X Y ad 50 SM h pc lv (.ref (ad 0) :: st) := j_get (j := 49) C hd (by decide) rfl rfl inM (by decide) lf_86 rfl rfl k
theorem lf_89 : Cond.fieldLink RX12 89 (TX12 50).1 (TX12 50).2.1 (TX12 50).2.2.1 ∈ TW := (TWt 1170 (by decide +kernel) (by decide +kernel))
theorem gM_89 (C : FC X Y l0 cc nL RX12 rm mc ms ret) (hd : decode cc pc = .ok (.getfield 89, 3)) (k : FJ X Y ad 50 SM h (pc + 3) lv (.ref (ad 27) :: st)) : FJ X Y ad 50 SM h pc lv (.ref (ad 0) :: st) := j_get (j := 50) C hd (by decide) rfl rfl inM (by decide) lf_89 rfl rfl k
theorem lf_93 : Cond.fieldLink RX12 93 (TX12 51).1 (TX12 51).2.1 (TX12 51).2.2.1 ∈ TW := (TWt 1171 (by decide +kernel) (by decide +kernel))
theorem gM_93 (C : FC X Y l0 cc nL RX12 rm mc ms ret) (hd : decode cc pc = .ok (.getfield 93, 3)) (k : FJ X Y ad 50 SM h (pc + 3) lv (.ref (ad 28) :: st)) : FJ X Y ad 50 SM h pc lv (.ref (ad 0) :: st) := j_get (j := 51) C hd (by decide) rfl rfl inM (by decide) lf_93 rfl rfl k
theorem lf_96 : Cond.fieldLink RX12 96 (TX12 52).1 (TX12 52).2.1 (TX12 52).2.2.1 ∈ TW := (TWt 1172 (by decide +kernel) (by decide +kernel))
theorem gM_96 (C : FC X Y l0 cc nL RX12 rm mc ms ret) (hd : decode cc pc = .ok (.getfield 96, 3)) (k : FJ X Y ad 50 SM h (pc + 3) lv (.ref (ad 29) :: st)) : FJ X Y ad 50 SM h pc lv (.ref (ad 0) :: st) := j_get (j := 52) C hd (by decide) rfl rfl inM (by decide) lf_96 rfl rfl k
theorem lf_99 : Cond.fieldLink RX12 99 (TX12 53).1 (TX12 53).2.1 (TX12 53).2.2.1 ∈ TW := (TWt 1173 (by decide +kernel) (by decide +kernel))
theorem gM_99 (C : FC X Y l0 cc nL RX12 rm mc ms ret) (hd : decode cc pc = .ok (.getfield 99, 3)) (k : FJ X Y ad 50 SM h (pc + 3) lv (.ref (ad 30) :: st)) : FJ X Y ad 50 SM h pc lv (.ref (ad 0) :: st) := j_get (j := 53) C hd (by decide) rfl rfl inM (by decide) lf_99 rfl rfl k
theorem lf_102 : Cond.fieldLink RX12 102 (TX12 54).1 (TX12 54).2.1 (TX12 54).2.2.1 ∈ TW := (TWt 1174 (by decide +kernel) (by decide +kernel))
theorem gM_102 (C : FC X Y l0 cc nL RX12 rm mc ms ret) (hd : decode cc pc = .ok (.getfield 102, 3)) (k : FJ X Y ad 50 SM h (pc + 3) lv (.ref (ad 31) :: st)) : FJ X Y ad 50 SM h pc lv (.ref (ad 0) :: st) := j_get (j := 54) C hd (by decide) rfl rfl inM (by decide) lf_102 rfl rfl k
theorem lf_105 : Cond.fieldLink RX12 105 (TX12 55).1 (TX12 55).2.1 (TX12 55).2.2.1 ∈ TW := (TWt 1175 (by decide +kernel) (by decide +kernel))
theorem gM_105 (C : FC X Y l0 cc nL RX12 rm mc ms ret) (hd : decode cc pc = .ok (.getfield 105, 3)) (k : FJ X Y ad 50 SM h (pc + 3) lv (.ref (ad 32) :: st)) : FJ X Y ad 50 SM h pc lv (.ref (ad 0) :: st) := j_get (j := 55) C hd (by decide) rfl rfl inM (by decide) lf_105 rfl rfl k
theorem lf_108 : Cond.fieldLink RX12 108 (TX12 56).1 (TX12 56).2.1 (TX12 56).2.2.1 ∈ TW := (TWt 1176 (by decide +kernel) (by decide +kernel))
theorem gM_108 (C : FC X Y l0 cc nL RX12 rm mc ms ret) (hd : decode cc pc = .ok (.getfield 108, 3)) (k : FJ X Y ad 50 SM h (pc + 3) lv (.ref (ad 33) :: st)) : FJ X Y ad 50 SM h pc lv (.ref (ad 0) :: st) := j_get (j := 56) C hd (by decide) rfl rfl inM (by decide) lf_108 rfl rfl k
theorem lf_111 : Cond.fieldLink RX12 111 (TX12 57).1 (TX12 57).2.1 (TX12 57).2.2.1 ∈ TW := (TWt 1177 (by decide +kernel) (by decide +kernel))
theorem gM_111 (C : FC X Y l0 cc nL RX12 rm mc ms ret) (hd : decode cc pc = .ok (.getfield 111, 3)) (k : FJ X Y ad 50 SM h (pc + 3) lv (.ref (ad 34) :: st)) : FJ X Y ad 50 SM h pc lv (.ref (ad 0) :: st) := j_get (j := 57) C hd (by decide) rfl rfl inM (by decide) lf_111 rfl rfl k
theorem lf_114 : Cond.fieldLink RX12 114 (TX12 58).1 (TX12 58).2.1 (TX12 58).2.2.1 ∈ TW := (TWt 1178 (by decide +kernel) (by decide +kernel))
theorem gM_114 (C : FC X Y l0 cc nL RX12 rm mc ms ret) (hd : decode cc pc = .ok (.getfield 114, 3)) (k : FJ X Y ad 50 SM h (pc + 3) lv (.ref (ad 35) :: st)) : FJ X Y ad 50 SM h pc lv (.ref (ad 0) :: st) := j_get (j := 58) C hd (by decide) rfl rfl inM (by decide) lf_114 rfl rfl k
theorem lf_117 : Cond.fieldLink RX12 117 (TX12 59).1 (TX12 59).2.1 (TX12 59).2.2.1 ∈ TW := (TWt 1179 (by decide +kernel) (by decide +kernel))
theorem gM_117 (C : FC X Y l0 cc nL RX12 rm mc ms ret) (hd : decode cc pc = .ok (.getfield 117, 3)) (k : FJ X Y ad 50 SM h (pc + 3) lv (.ref (ad 36) :: st)) : FJ X Y ad 50 SM h pc lv (.ref (ad 0) :: st) := j_get (j := 59) C hd (by decide) rfl rfl inM (by decide) lf_117 rfl rfl k
theorem lf_120 : Cond.fieldLink RX12 120 (TX12 61).1 (TX12 61).2.1 (TX12 61).2.2.1 ∈ TW := (TWt 1181 (by decide +kernel) (by decide +kernel))
theorem gM_120 (C : FC X Y l0 cc nL RX12 rm mc ms ret) (hd : decode cc pc = .ok (.getfield 120, 3)) (k : FJ X Y ad 50 SM h (pc + 3) lv (.ref (ad 37) :: st)) : FJ X Y ad 50 SM h pc lv (.ref (ad 0) :: st) := j_get (j := 61) C hd (by decide) rfl rfl inM (by decide) lf_120 rfl rfl k
theorem lf_123 : Cond.fieldLink RX12 123 (TX12 62).1 (TX12 62).2.1 (TX12 62).2.2.1 ∈ TW := (TWt 1182 (by decide +kernel) (by decide +kernel))
theorem gM_123 (C : FC X Y l0 cc nL RX12 rm mc ms ret) (hd : decode cc pc = .ok (.getfield 123, 3)) (k : FJ X Y ad 50 SM h (pc + 3) lv (.ref (ad 38) :: st)) : FJ X Y ad 50 SM h pc lv (.ref (ad 0) :: st) := j_get (j := 62) C hd (by decide) rfl rfl inM (by decide) lf_123 rfl rfl k
theorem lf_127 : Cond.fieldLink RX12 127 (TX12 63).1 (TX12 63).2.1 (TX12 63).2.2.1 ∈ TW := (TWt 1183 (by decide +kernel) (by decide +kernel))
theorem gM_127 (C : FC X Y l0 cc nL RX12 rm mc ms ret) (hd : decode cc pc = .ok (.getfield 127, 3)) (k : FJ X Y ad 50 SM h (pc + 3) lv (.ref (ad 39) :: st)) : FJ X Y ad 50 SM h pc lv (.ref (ad 0) :: st) := j_get (j := 63) C hd (by decide) rfl rfl inM (by decide) lf_127 rfl rfl k
theorem lf_130 : Cond.fieldLink RX12 130 (TX12 66).1 (TX12 66).2.1 (TX12 66).2.2.1 ∈ TW := (TWt 1185 (by decide +kernel) (by decide +kernel))
theorem gM_130 {v : Int32} (C : FC X Y l0 cc nL RX12 rm mc ms ret) (hd : decode cc pc = .ok (.getfield 130, 3)) (hv : h 0 66 = v) (k : FJ X Y ad 50 SM h (pc + 3) lv (.int v :: st)) : FJ X Y ad 50 SM h pc lv (.ref (ad 0) :: st) := j_get (j := 66) C hd (by decide) rfl rfl inM (by decide) lf_130 rfl (by subst hv; rfl) k
theorem pM_130 {v : Int32} (C : FC X Y l0 cc nL RX12 rm mc ms ret) (hd : decode cc pc = .ok (.putfield 130, 3)) (k : FJ X Y ad 50 SM (hs h 0 66 v) (pc + 3) lv st) : FJ X Y ad 50 SM h pc lv (.int v :: .ref (ad 0) :: st) := j_put (ty := .int) (j := 66) C hd (by decide) rfl rfl inM tyX12_ok nmX12 (by decide) lf_130 rfl rfl rfl (by decide +kernel) rfl rfl k
theorem lf_134 : Cond.fieldLink RX12 134 (TX12 71).1 (TX12 71).2.1 (TX12 71).2.2.1 ∈ TW := (TWt 1190 (by decide +kernel) (by decide +kernel))
theorem gM_134 (C : FC X Y l0 cc nL RX12 rm mc ms ret) (hd : decode cc pc = .ok (.getfield 134, 3)) (k : FJ X Y ad 50 SM h (pc + 3) lv (.ref (ad 40) :: st)) : FJ X Y ad 50 SM h pc lv (.ref (ad 0) :: st) := j_get (j := 71) C hd (by decide) rfl rfl inM (by decide) lf_134 rfl rfl k
theorem lf_137 : Cond.fieldLink RX12 137 (TX12 72).1 (TX12 72).2.1 (TX12 72).2.2.1 ∈ TW := (TWt 1191 (by decide +kernel) (by decide +kernel))
theorem gM_137 (C : FC X Y l0 cc nL RX12 rm mc ms ret) (hd : decode cc pc = .ok (.getfield 137, 3)) (k : FJ X Y ad 50 SM h (pc + 3) lv (.ref (ad 41) :: st)) : FJ X Y ad 50 SM h pc lv (.ref (ad 0) :: st) := j_get (j := 72) C hd (by decide) rfl rfl inM (by decide) lf_137 rfl rfl k
theorem lf_140 : Cond.fieldLink RX12 140 (TX12 75).1 (TX12 75).2.1 (TX12 75).2.2.1 ∈ TW := (TWt 1194 (by decide +kernel) (by decide +kernel))
theorem gM_140 (C : FC X Y l0 cc nL RX12 rm mc ms ret) (hd : decode cc pc = .ok (.getfield 140, 3)) (k : FJ X Y ad 50 SM h (pc + 3) lv (.ref (ad 42) :: st)) : FJ X Y ad 50 SM h pc lv (.ref (ad 0) :: st) := j_get (j := 75) C hd (by decide) rfl rfl inM (by decide) lf_140 rfl rfl k
theorem lf_143 : Cond.fieldLink RX12 143 (TX12 76).1 (TX12 76).2.1 (TX12 76).2.2.1 ∈ TW := (TWt 1195 (by decide +kernel) (by decide +kernel))
theorem gM_143 (C : FC X Y l0 cc nL RX12 rm mc ms ret) (hd : decode cc pc = .ok (.getfield 143, 3)) (k : FJ X Y ad 50 SM h (pc + 3) lv (.ref (ad 43) :: st)) : FJ X Y ad 50 SM h pc lv (.ref (ad 0) :: st) := j_get (j := 76) C hd (by decide) rfl rfl inM (by decide) lf_143 rfl rfl k
theorem lf_146 : Cond.fieldLink RX12 146 (TX12 77).1 (TX12 77).2.1 (TX12 77).2.2.1 ∈ TW := (TWt 1196 (by decide +kernel) (by decide +kernel))
theorem gM_146 (C : FC X Y l0 cc nL RX12 rm mc ms ret) (hd : decode cc pc = .ok (.getfield 146, 3)) (k : FJ X Y ad 50 SM h (pc + 3) lv (.ref (ad 44) :: st)) : FJ X Y ad 50 SM h pc lv (.ref (ad 0) :: st) := j_get (j := 77) C hd (by decide) rfl rfl inM (by decide) lf_146 rfl rfl k
theorem lf_149 : Cond.fieldLink RX12 149 (TX12 78).1 (TX12 78).2.1 (TX12 78).2.2.1 ∈ TW := (TWt 1197 (by decide +kernel) (by decide +kernel))
theorem gM_149 (C : FC X Y l0 cc nL RX12 rm mc ms ret) (hd : decode cc pc = .ok (.getfield 149, 3)) (k : FJ X Y ad 50 SM h (pc + 3) lv (.ref (ad 45) :: st)) : FJ X Y ad 50 SM h pc lv (.ref (ad 0) :: st) := j_get (j := 78) C hd (by decide) rfl rfl inM (by decide) lf_149 rfl rfl k
theorem lf_152 : Cond.fieldLink RX12 152 (TX12 79).1 (TX12 79).2.1 (TX12 79).2.2.1 ∈ TW := (TWt 1198 (by decide +kernel) (by decide +kernel))
theorem gM_152 (C : FC X Y l0 cc nL RX12 rm mc ms ret) (hd : decode cc pc = .ok (.getfield 152, 3)) (k : FJ X Y ad 50 SM h (pc + 3) lv (.ref (ad 46) :: st)) : FJ X Y ad 50 SM h pc lv (.ref (ad 0) :: st) := j_get (j := 79) C hd (by decide) rfl rfl inM (by decide) lf_152 rfl rfl k
theorem lf_155 : Cond.fieldLink RX12 155 (TX12 80).1 (TX12 80).2.1 (TX12 80).2.2.1 ∈ TW := (TWt 1199 (by decide +kernel) (by decide +kernel))
theorem gM_155 (C : FC X Y l0 cc nL RX12 rm mc ms ret) (hd : decode cc pc = .ok (.getfield 155, 3)) (k : FJ X Y ad 50 SM h (pc + 3) lv (.ref (ad 47) :: st)) : FJ X Y ad 50 SM h pc lv (.ref (ad 0) :: st) := j_get (j := 80) C hd (by decide) rfl rfl inM (by decide) lf_155 rfl rfl k
theorem lf_158 : Cond.fieldLink RX12 158 (TX12 81).1 (TX12 81).2.1 (TX12 81).2.2.1 ∈ TW := (TWt 1200 (by decide +kernel) (by decide +kernel))
theorem gM_158 (C : FC X Y l0 cc nL RX12 rm mc ms ret) (hd : decode cc pc = .ok (.getfield 158, 3)) (k : FJ X Y ad 50 SM h (pc + 3) lv (.ref (ad 48) :: st)) : FJ X Y ad 50 SM h pc lv (.ref (ad 0) :: st) := j_get (j := 81) C hd (by decide) rfl rfl inM (by decide) lf_158 rfl rfl k
theorem lf_161 : Cond.fieldLink RX12 161 (TX12 82).1 (TX12 82).2.1 (TX12 82).2.2.1 ∈ TW := (TWt 1201 (by decide +kernel) (by decide +kernel))
theorem gM_161 (C : FC X Y l0 cc nL RX12 rm mc ms ret) (hd : decode cc pc = .ok (.getfield 161, 3)) (k : FJ X Y ad 50 SM h (pc + 3) lv (.ref (ad 49) :: st)) : FJ X Y ad 50 SM h pc lv (.ref (ad 0) :: st) := j_get (j := 82) C hd (by decide) rfl rfl inM (by decide) lf_161 rfl rfl k
theorem lf_164 : Cond.fieldLink RX12 164 (TX12 0).1 (TX12 0).2.1 (TX12 0).2.2.1 ∈ TW := (TWt 1120 (by decide +kernel) (by decide +kernel))
theorem gM_164 {v : Int32} (C : FC X Y l0 cc nL RX12 rm mc ms ret) (hd : decode cc pc = .ok (.getfield 164, 3)) (hv : h 0 0 = v) (k : FJ X Y ad 50 SM h (pc + 3) lv (.int v :: st)) : FJ X Y ad 50 SM h pc lv (.ref (ad 0) :: st) := j_get (j := 0) C hd (by decide) rfl rfl inM (by decide) lf_164 rfl (by subst hv; rfl) k
theorem pM_164 {v : Int32} (C : FC X Y l0 cc nL RX12 rm mc ms ret) (hd : decode cc pc = .ok (.putfield 164, 3)) (k : FJ X Y ad 50 SM (hs h 0 0 v) (pc + 3) lv st) : FJ X Y ad 50 SM h pc lv (.int v :: .ref (ad 0) :: st) := j_put (ty := .int) (j := 0) C hd (by decide) rfl rfl inM tyX12_ok nmX12 (by decide) lf_164 rfl rfl rfl (by decide +kernel) rfl rfl k
theorem lf_177 : Cond.fieldLink RX12 177 (TX12 7).1 (TX12 7).2.1 (TX12 7).2.2.1 ∈ TW := (TWt 1127 (by decide +kernel) (by decide +kernel))
theorem gM_177 {v : Int32} (C : FC X Y l0 cc nL RX12 rm mc ms ret) (hd : decode cc pc = .ok (.getfield 177, 3)) (hv : h 0 7 = v) (k : FJ X Y ad 50 SM h (pc + 3) lv (.int v :: st)) : FJ X Y ad 50 SM h pc lv (.ref (ad 0) :: st) := j_get (j := 7) C hd (by decide) rfl rfl inM (by decide) lf_177 rfl (by subst hv; rfl) k
theorem pM_177 {v : Int32} (C : FC X Y l0 cc nL RX12 rm mc ms ret) (hd : decode cc pc = .ok (.putfield 177, 3)) (k : FJ X Y ad 50 SM (hs h 0 7 v) (pc + 3) lv st) : FJ X Y ad 50 SM h pc lv (.int v :: .ref (ad 0) :: st) := j_put (ty := .int) (j := 7) C hd (by decide) rfl rfl inM tyX12_ok nmX12 (by decide) lf_177 rfl rfl rfl (by decide +kernel) rfl rfl k
theorem lf_182 : Cond.fieldLink RX12 182 (TX12 9).1 (TX12 9).2.1 (TX12 9).2.2.1 ∈ TW := (TWt 1129 (by decide +kernel) (by decide +kernel))
theorem gM_182 {v : Int32} (C : FC X Y l0 cc nL RX12 rm mc ms ret) (hd : decode cc pc = .ok (.getfield 182, 3)) (hv : h 0 9 = v) (k : FJ X Y ad 50 SM h (pc + 3) lv (.int v :: st)) : FJ X Y ad 50 SM h pc lv (.ref (ad 0) :: st) := j_get (j := 9) C hd (by decide) rfl rfl inM (by decide) lf_182 rfl (by subst hv; rfl) k
theorem pM_182 {v : Int32} (C : FC X Y l0 cc nL RX12 rm mc ms ret) (hd : decode cc pc = .ok (.putfield 182, 3)) (k : FJ X Y ad 50 SM (hs h 0 9 v) (pc + 3) lv st) : FJ X Y ad 50 SM h pc lv (.int v :: .ref (ad 0) :: st) := j_put (ty := .int) (j := 9) C hd (by decide) rfl rfl inM tyX12_ok nmX12 (by decide) lf_182 rfl rfl rfl (by decide +kernel) rfl rfl k
theorem lf_185 : Cond.fieldLink RX12 185 (TX12 18).1 (TX12 18).2.1 (TX12 18).2.2.1 ∈ TW := (TWt 1138 (by decide +kernel) (by decide +kernel))
theorem gM_185 {v : Int32} (C : FC X Y l0 cc nL RX12 rm mc ms ret) (hd : decode cc pc = .ok (.getfield 185, 3)) (hv : h 0 18 = v) (k : FJ X Y ad 50 SM h (pc + 3) lv (.int v :: st)) : FJ X Y ad 50 SM h pc lv (.ref (ad 0) :: st) := j_get (j := 18) C hd (by decide) rfl rfl inM (by decide) lf_185 rfl (by subst hv; rfl) k
theorem pM_185 {v : Int32} (C : FC X Y l0 cc nL RX12 rm mc ms ret) (hd : decode cc pc = .ok (.putfield 185, 3)) (k : FJ X Y ad 50 SM (hs h 0 18 v) (pc + 3) lv st) : FJ X Y ad 50 SM h pc lv (.int v :: .ref (ad 0) :: st) := j_put (ty := .int) (j := 18) C hd (by decide) rfl rfl inM tyX12_ok nmX12 (by decide) lf_185 rfl rfl rfl (by decide +kernel) rfl rfl k
theorem lf_188 : Cond.fieldLink RX12 188 (TX12 23).1 (TX12 23).2.1 (TX12 23).2.2.1 ∈ TW := (TWt 1143 (by decide +kernel) (by decide +kernel))
theorem gM_188 {v : Int32} (C : FC X Y l0 cc nL RX12 rm mc ms ret) (hd : decode cc pc = .ok (.getfield 188, 3)) (hv : h 0 23 = v) (k : FJ X Y ad 50 SM h (pc + 3) lv (.int v :: st)) : FJ X Y ad 50 SM h pc lv (.ref (ad 0) :: st) := j_get (j := 23) C hd (by decide) rfl rfl inM (by decide) lf_188 rfl (by subst hv; rfl) k
theorem pM_188 {v : Int32} (C : FC X Y l0 cc nL RX12 rm mc ms ret) (hd : decode cc pc = .ok (.putfield 188, 3)) (k : FJ X Y ad 50 SM (hs h 0 23 v) (pc + 3) lv st) : FJ X Y ad 50 SM h pc lv (.int v :: .ref (ad 0) :: st) := j_put (ty := .int) (j := 23) C hd (by decide) rfl rfl inM tyX12_ok nmX12 (by decide) lf_188 rfl rfl rfl (by decide +kernel) rfl rfl k
theorem lf_191 : Cond.fieldLink RX12 191 (TX12 24).1 (TX12 24).2.1 (TX12 24).2.2.1 ∈ TW := (TWt 1144 (by decide +kernel) (by decide +kernel))
theorem gM_191 {v : Int32} (C : FC X Y l0 cc nL RX12 rm mc ms ret) (hd : decode cc pc = .ok (.getfield 191, 3)) (hv : h 0 24 = v) (k : FJ X Y ad 50 SM h (pc + 3) lv (.int v :: st)) : FJ X Y ad 50 SM h pc lv (.ref (ad 0) :: st) := j_get (j := 24) C hd (by decide) rfl rfl inM (by decide) lf_191 rfl (by subst hv; rfl) k
theorem pM_191 {v : Int32} (C : FC X Y l0 cc nL RX12 rm mc ms ret) (hd : decode cc pc = .ok (.putfield 191, 3)) (k : FJ X Y ad 50 SM (hs h 0 24 v) (pc + 3) lv st) : FJ X Y ad 50 SM h pc lv (.int v :: .ref (ad 0) :: st) := j_put (ty := .int) (j := 24) C hd (by decide) rfl rfl inM tyX12_ok nmX12 (by decide) lf_191 rfl rfl rfl (by decide +kernel) rfl rfl k
theorem lf_194 : Cond.fieldLink RX12 194 (TX12 25).1 (TX12 25).2.1 (TX12 25).2.2.1 ∈ TW := (TWt 1145 (by decide +kernel) (by decide +kernel))
theorem gM_194 {v : Int32} (C : FC X Y l0 cc nL RX12 rm mc ms ret) (hd : decode cc pc = .ok (.getfield 194, 3)) (hv : h 0 25 = v) (k : FJ X Y ad 50 SM h (pc + 3) lv (.int v :: st)) : FJ X Y ad 50 SM h pc lv (.ref (ad 0) :: st) := j_get (j := 25) C hd (by decide) rfl rfl inM (by decide) lf_194 rfl (by subst hv; rfl) k
theorem pM_194 {v : Int32} (C : FC X Y l0 cc nL RX12 rm mc ms ret) (hd : decode cc pc = .ok (.putfield 194, 3)) (k : FJ X Y ad 50 SM (hs h 0 25 v) (pc + 3) lv st) : FJ X Y ad 50 SM h pc lv (.int v :: .ref (ad 0) :: st) := j_put (ty := .int) (j := 25) C hd (by decide) rfl rfl inM tyX12_ok nmX12 (by decide) lf_194 rfl rfl rfl (by decide +kernel) rfl rfl k
theorem lf_197 : Cond.fieldLink RX12 197 (TX12 26).1 (TX12 26).2.1 (TX12 26).2.2.1 ∈ TW := (TWt 1146 (by decide +kernel) (by decide +kernel))
theorem gM_197 {v : Int32} (C : FC X Y l0 cc nL RX12 rm mc ms ret) (hd : decode cc pc = .ok (.getfield 197, 3)) (hv : h 0 26 = v) (k : FJ X Y ad 50 SM h (pc + 3) lv (.int v :: st)) : FJ X Y ad 50 SM h pc lv (.ref (ad 0) :: st) := j_get (j := 26) C hd (by decide) rfl rfl inM (by decide) lf_197 rfl (by subst hv; rfl) k
theorem pM_197 {v : Int32} (C : FC X Y l0 cc nL RX12 rm mc ms ret) (hd : decode cc pc = .ok (.putfield 197, 3)) (k : FJ X Y ad 50 SM (hs h 0 26 v) (pc + 3) lv st) : FJ X Y ad 50 SM h pc lv (.int v :: .ref (ad 0) :: st) := j_put (ty := .int) (j := 26) C hd (by decide) rfl rfl inM tyX12_ok nmX12 (by decide) lf_197 rfl rfl rfl (by decide +kernel) rfl rfl k
theorem lf_200 : Cond.fieldLink RX12 200 (TX12 35).1 (TX12 35).2.1 (TX12 35).2.2.1 ∈ TW := (TWt 1155 (by decide +kernel) (by decide +kernel))
theorem gM_200 {v : Int32} (C : FC X Y l0 cc nL RX12 rm mc ms ret) (hd : decode cc pc = .ok (.getfield 200, 3)) (hv : h 0 35 = v) (k : FJ X Y ad 50 SM h (pc + 3) lv (.int v :: st)) : FJ X Y ad 50 SM h pc lv (.ref (ad 0) :: st) := j_get (j := 35) C hd (by decide) rfl rfl inM (by decide) lf_200 rfl (by subst hv; rfl) k
theorem pM_200 {v : Int32} (C : FC X Y l0 cc nL RX12 rm mc ms ret) (hd : decode cc pc = .ok (.putfield 200, 3)) (hb : bo v) (k : FJ X Y ad 50 SM (hs h 0 35 v) (pc + 3) lv st) : FJ X Y ad 50 SM h pc lv (.int v :: .ref (ad 0) :: st) := j_put (ty := .boolean) (j := 35) C hd (by decide) rfl rfl inM tyX12_ok nmX12 (by decide) lf_200 rfl rfl rfl (by decide +kernel) (bo_n hb) (bo_f hb) k
theorem lf_218 : Cond.fieldLink RX12 218 (TX12 33).1 (TX12 33).2.1 (TX12 33).2.2.1 ∈ TW := (TWt 1153 (by decide +kernel) (by decide +kernel))
theorem gM_218 {v : Int32} (C : FC X Y l0 cc nL RX12 rm mc ms ret) (hd : decode cc pc = .ok (.getfield 218, 3)) (hv : h 0 33 = v) (k : FJ X Y ad 50 SM h (pc + 3) lv (.int v :: st)) : FJ X Y ad 50 SM h pc lv (.ref (ad 0) :: st) := j_get (j := 33) C hd (by decide) rfl rfl inM (by decide) lf_218 rfl (by subst hv; rfl) k
theorem pM_218 {v : Int32} (C : FC X Y l0 cc nL RX12 rm mc ms ret) (hd : decode cc pc = .ok (.putfield 218, 3)) (hb : bo v) (k : FJ X Y ad 50 SM (hs h 0 33 v) (pc + 3) lv st) : FJ X Y ad 50 SM h pc lv (.int v :: .ref (ad 0) :: st) := j_put (ty := .boolean) (j := 33) C hd (by decide) rfl rfl inM tyX12_ok nmX12 (by decide) lf_218 rfl rfl rfl (by decide +kernel) (bo_n hb) (bo_f hb) k
theorem lf_228 : Cond.fieldLink RX12 228 (TX12 29).1 (TX12 29).2.1 (TX12 29).2.2.1 ∈ TW := (TWt 1149 (by decide +kernel) (by decide +kernel))
theorem gM_228 {v : Int32} (C : FC X Y l0 cc nL RX12 rm mc ms ret) (hd : decode cc pc = .ok (.getfield 228, 3)) (hv : h 0 29 = v) (k : FJ X Y ad 50 SM h (pc + 3) lv (.int v :: st)) : FJ X Y ad 50 SM h pc lv (.ref (ad 0) :: st) := j_get (j := 29) C hd (by decide) rfl rfl inM (by decide) lf_228 rfl (by subst hv; rfl) k
theorem pM_228 {v : Int32} (C : FC X Y l0 cc nL RX12 rm mc ms ret) (hd : decode cc pc = .ok (.putfield 228, 3)) (k : FJ X Y ad 50 SM (hs h 0 29 v) (pc + 3) lv st) : FJ X Y ad 50 SM h pc lv (.int v :: .ref (ad 0) :: st) := j_put (ty := .int) (j := 29) C hd (by decide) rfl rfl inM tyX12_ok nmX12 (by decide) lf_228 rfl rfl rfl (by decide +kernel) rfl rfl k
theorem lf_231 : Cond.fieldLink RX12 231 (TX12 30).1 (TX12 30).2.1 (TX12 30).2.2.1 ∈ TW := (TWt 1150 (by decide +kernel) (by decide +kernel))
theorem gM_231 {v : Int32} (C : FC X Y l0 cc nL RX12 rm mc ms ret) (hd : decode cc pc = .ok (.getfield 231, 3)) (hv : h 0 30 = v) (k : FJ X Y ad 50 SM h (pc + 3) lv (.int v :: st)) : FJ X Y ad 50 SM h pc lv (.ref (ad 0) :: st) := j_get (j := 30) C hd (by decide) rfl rfl inM (by decide) lf_231 rfl (by subst hv; rfl) k
theorem pM_231 {v : Int32} (C : FC X Y l0 cc nL RX12 rm mc ms ret) (hd : decode cc pc = .ok (.putfield 231, 3)) (k : FJ X Y ad 50 SM (hs h 0 30 v) (pc + 3) lv st) : FJ X Y ad 50 SM h pc lv (.int v :: .ref (ad 0) :: st) := j_put (ty := .int) (j := 30) C hd (by decide) rfl rfl inM tyX12_ok nmX12 (by decide) lf_231 rfl rfl rfl (by decide +kernel) rfl rfl k
theorem lf_234 : Cond.fieldLink RX12 234 (TX12 31).1 (TX12 31).2.1 (TX12 31).2.2.1 ∈ TW := (TWt 1151 (by decide +kernel) (by decide +kernel))
theorem gM_234 {v : Int32} (C : FC X Y l0 cc nL RX12 rm mc ms ret) (hd : decode cc pc = .ok (.getfield 234, 3)) (hv : h 0 31 = v) (k : FJ X Y ad 50 SM h (pc + 3) lv (.int v :: st)) : FJ X Y ad 50 SM h pc lv (.ref (ad 0) :: st) := j_get (j := 31) C hd (by decide) rfl rfl inM (by decide) lf_234 rfl (by subst hv; rfl) k
theorem pM_234 {v : Int32} (C : FC X Y l0 cc nL RX12 rm mc ms ret) (hd : decode cc pc = .ok (.putfield 234, 3)) (k : FJ X Y ad 50 SM (hs h 0 31 v) (pc + 3) lv st) : FJ X Y ad 50 SM h pc lv (.int v :: .ref (ad 0) :: st) := j_put (ty := .int) (j := 31) C hd (by decide) rfl rfl inM tyX12_ok nmX12 (by decide) lf_234 rfl rfl rfl (by decide +kernel) rfl rfl k
theorem lf_237 : Cond.fieldLink RX12 237 (TX12 32).1 (TX12 32).2.1 (TX12 32).2.2.1 ∈ TW := (TWt 1152 (by decide +kernel) (by decide +kernel))
theorem gM_237 {v : Int32} (C : FC X Y l0 cc nL RX12 rm mc ms ret) (hd : decode cc pc = .ok (.getfield 237, 3)) (hv : h 0 32 = v) (k : FJ X Y ad 50 SM h (pc + 3) lv (.int v :: st)) : FJ X Y ad 50 SM h pc lv (.ref (ad 0) :: st) := j_get (j := 32) C hd (by decide) rfl rfl inM (by decide) lf_237 rfl (by subst hv; rfl) k
theorem pM_237 {v : Int32} (C : FC X Y l0 cc nL RX12 rm mc ms ret) (hd : decode cc pc = .ok (.putfield 237, 3)) (k : FJ X Y ad 50 SM (hs h 0 32 v) (pc + 3) lv st) : FJ X Y ad 50 SM h pc lv (.int v :: .ref (ad 0) :: st) := j_put (ty := .int) (j := 32) C hd (by decide) rfl rfl inM tyX12_ok nmX12 (by decide) lf_237 rfl rfl rfl (by decide +kernel) rfl rfl k
theorem lf_240 : Cond.fieldLink RX12 240 (TX12 27).1 (TX12 27).2.1 (TX12 27).2.2.1 ∈ TW := (TWt 1147 (by decide +kernel) (by decide +kernel))
theorem gM_240 {v : Int32} (C : FC X Y l0 cc nL RX12 rm mc ms ret) (hd : decode cc pc = .ok (.getfield 240, 3)) (hv : h 0 27 = v) (k : FJ X Y ad 50 SM h (pc + 3) lv (.int v :: st)) : FJ X Y ad 50 SM h pc lv (.ref (ad 0) :: st) := j_get (j := 27) C hd (by decide) rfl rfl inM (by decide) lf_240 rfl (by subst hv; rfl) k
theorem pM_240 {v : Int32} (C : FC X Y l0 cc nL RX12 rm mc ms ret) (hd : decode cc pc = .ok (.putfield 240, 3)) (k : FJ X Y ad 50 SM (hs h 0 27 v) (pc + 3) lv st) : FJ X Y ad 50 SM h pc lv (.int v :: .ref (ad 0) :: st) := j_put (ty := .int) (j := 27) C hd (by decide) rfl rfl inM tyX12_ok nmX12 (by decide) lf_240 rfl rfl rfl (by decide +kernel) rfl rfl k
theorem lf_243 : Cond.fieldLink RX12 243 (TX12 28).1 (TX12 28).2.1 (TX12 28).2.2.1 ∈ TW := (TWt 1148 (by decide +kernel) (by decide +kernel))
theorem gM_243 {v : Int32} (C : FC X Y l0 cc nL RX12 rm mc ms ret) (hd : decode cc pc = .ok (.getfield 243, 3)) (hv : h 0 28 = v) (k : FJ X Y ad 50 SM h (pc + 3) lv (.int v :: st)) : FJ X Y ad 50 SM h pc lv (.ref (ad 0) :: st) := j_get (j := 28) C hd (by decide) rfl rfl inM (by decide) lf_243 rfl (by subst hv; rfl) k
theorem pM_243 {v : Int32} (C : FC X Y l0 cc nL RX12 rm mc ms ret) (hd : decode cc pc = .ok (.putfield 243, 3)) (k : FJ X Y ad 50 SM (hs h 0 28 v) (pc + 3) lv st) : FJ X Y ad 50 SM h pc lv (.int v :: .ref (ad 0) :: st) := j_put (ty := .int) (j := 28) C hd (by decide) rfl rfl inM tyX12_ok nmX12 (by decide) lf_243 rfl rfl rfl (by decide +kernel) rfl rfl k
theorem lf_250 : Cond.fieldLink RX12 250 (TX12 34).1 (TX12 34).2.1 (TX12 34).2.2.1 ∈ TW := (TWt 1154 (by decide +kernel) (by decide +kernel))
theorem gM_250 {v : Int32} (C : FC X Y l0 cc nL RX12 rm mc ms ret) (hd : decode cc pc = .ok (.getfield 250, 3)) (hv : h 0 34 = v) (k : FJ X Y ad 50 SM h (pc + 3) lv (.int v :: st)) : FJ X Y ad 50 SM h pc lv (.ref (ad 0) :: st) := j_get (j := 34) C hd (by decide) rfl rfl inM (by decide) lf_250 rfl (by subst hv; rfl) k
theorem pM_250 {v : Int32} (C : FC X Y l0 cc nL RX12 rm mc ms ret) (hd : decode cc pc = .ok (.putfield 250, 3)) (k : FJ X Y ad 50 SM (hs h 0 34 v) (pc + 3) lv st) : FJ X Y ad 50 SM h pc lv (.int v :: .ref (ad 0) :: st) := j_put (ty := .int) (j := 34) C hd (by decide) rfl rfl inM tyX12_ok nmX12 (by decide) lf_250 rfl rfl rfl (by decide +kernel) rfl rfl k
theorem lf_272 : Cond.fieldLink RX12 272 (TX12 60).1 (TX12 60).2.1 (TX12 60).2.2.1 ∈ TW := (TWt 1180 (by decide +kernel) (by decide +kernel))
theorem gM_272 {v : Int32} (C : FC X Y l0 cc nL RX12 rm mc ms ret) (hd : decode cc pc = .ok (.getfield 272, 3)) (hv : h 0 60 = v) (k : FJ X Y ad 50 SM h (pc + 3) lv (.int v :: st)) : FJ X Y ad 50 SM h pc lv (.ref (ad 0) :: st) := j_get (j := 60) C hd (by decide) rfl rfl inM (by decide) lf_272 rfl (by subst hv; rfl) k
theorem pM_272 {v : Int32} (C : FC X Y l0 cc nL RX12 rm mc ms ret) (hd : decode cc pc = .ok (.putfield 272, 3)) (k : FJ X Y ad 50 SM (hs h 0 60 v) (pc + 3) lv st) : FJ X Y ad 50 SM h pc lv (.int v :: .ref (ad 0) :: st) := j_put (ty := .int) (j := 60) C hd (by decide) rfl rfl inM tyX12_ok nmX12 (by decide) lf_272 rfl rfl rfl (by decide +kernel) rfl rfl k
theorem lf_288 : Cond.fieldLink RX12 288 (TX12 64).1 (TX12 64).2.1 (TX12 64).2.2.1 ∈ TW := (TWt 1184 (by decide +kernel) (by decide +kernel))
theorem gM_288 {v : Int32} (C : FC X Y l0 cc nL RX12 rm mc ms ret) (hd : decode cc pc = .ok (.getfield 288, 3)) (hv : h 0 64 = v) (k : FJ X Y ad 50 SM h (pc + 3) lv (.int v :: st)) : FJ X Y ad 50 SM h pc lv (.ref (ad 0) :: st) := j_get (j := 64) C hd (by decide) rfl rfl inM (by decide) lf_288 rfl (by subst hv; rfl) k
theorem pM_288 {v : Int32} (C : FC X Y l0 cc nL RX12 rm mc ms ret) (hd : decode cc pc = .ok (.putfield 288, 3)) (hb : bo v) (k : FJ X Y ad 50 SM (hs h 0 64 v) (pc + 3) lv st) : FJ X Y ad 50 SM h pc lv (.int v :: .ref (ad 0) :: st) := j_put (ty := .boolean) (j := 64) C hd (by decide) rfl rfl inM tyX12_ok nmX12 (by decide) lf_288 rfl rfl rfl (by decide +kernel) (bo_n hb) (bo_f hb) k
theorem lf_294 : Cond.fieldLink RX12 294 (TX12 36).1 (TX12 36).2.1 (TX12 36).2.2.1 ∈ TW := (TWt 1156 (by decide +kernel) (by decide +kernel))
theorem gM_294 {v : Int32} (C : FC X Y l0 cc nL RX12 rm mc ms ret) (hd : decode cc pc = .ok (.getfield 294, 3)) (hv : h 0 36 = v) (k : FJ X Y ad 50 SM h (pc + 3) lv (.int v :: st)) : FJ X Y ad 50 SM h pc lv (.ref (ad 0) :: st) := j_get (j := 36) C hd (by decide) rfl rfl inM (by decide) lf_294 rfl (by subst hv; rfl) k
theorem pM_294 {v : Int32} (C : FC X Y l0 cc nL RX12 rm mc ms ret) (hd : decode cc pc = .ok (.putfield 294, 3)) (hb : bo v) (k : FJ X Y ad 50 SM (hs h 0 36 v) (pc + 3) lv st) : FJ X Y ad 50 SM h pc lv (.int v :: .ref (ad 0) :: st) := j_put (ty := .boolean) (j := 36) C hd (by decide) rfl rfl inM tyX12_ok nmX12 (by decide) lf_294 rfl rfl rfl (by decide +kernel) (bo_n hb) (bo_f hb) k
theorem lf_301 : Cond.fieldLink RX12 301 (TX12 37).1 (TX12 37).2.1 (TX12 37).2.2.1 ∈ TW := (TWt 1157 (by decide +kernel) (by decide +kernel))
theorem gM_301 {v : Int32} (C : FC X Y l0 cc nL RX12 rm mc ms ret) (hd : decode cc pc = .ok (.getfield 301, 3)) (hv : h 0 37 = v) (k : FJ X Y ad 50 SM h (pc + 3) lv (.int v :: st)) : FJ X Y ad 50 SM h pc lv (.ref (ad 0) :: st) := j_get (j := 37) C hd (by decide) rfl rfl inM (by decide) lf_301 rfl (by subst hv; rfl) k
theorem pM_301 {v : Int32} (C : FC X Y l0 cc nL RX12 rm mc ms ret) (hd : decode cc pc = .ok (.putfield 301, 3)) (k : FJ X Y ad 50 SM (hs h 0 37 v) (pc + 3) lv st) : FJ X Y ad 50 SM h pc lv (.int v :: .ref (ad 0) :: st) := j_put (ty := .int) (j := 37) C hd (by decide) rfl rfl inM tyX12_ok nmX12 (by decide) lf_301 rfl rfl rfl (by decide +kernel) rfl rfl k
theorem lf_304 : Cond.fieldLink RX12 304 (TX12 38).1 (TX12 38).2.1 (TX12 38).2.2.1 ∈ TW := (TWt 1158 (by decide +kernel) (by decide +kernel))
theorem gM_304 {v : Int32} (C : FC X Y l0 cc nL RX12 rm mc ms ret) (hd : decode cc pc = .ok (.getfield 304, 3)) (hv : h 0 38 = v) (k : FJ X Y ad 50 SM h (pc + 3) lv (.int v :: st)) : FJ X Y ad 50 SM h pc lv (.ref (ad 0) :: st) := j_get (j := 38) C hd (by decide) rfl rfl inM (by decide) lf_304 rfl (by subst hv; rfl) k
theorem pM_304 {v : Int32} (C : FC X Y l0 cc nL RX12 rm mc ms ret) (hd : decode cc pc = .ok (.putfield 304, 3)) (k : FJ X Y ad 50 SM (hs h 0 38 v) (pc + 3) lv st) : FJ X Y ad 50 SM h pc lv (.int v :: .ref (ad 0) :: st) := j_put (ty := .int) (j := 38) C hd (by decide) rfl rfl inM tyX12_ok nmX12 (by decide) lf_304 rfl rfl rfl (by decide +kernel) rfl rfl k
theorem lf_307 : Cond.fieldLink RX12 307 (TX12 39).1 (TX12 39).2.1 (TX12 39).2.2.1 ∈ TW := (TWt 1159 (by decide +kernel) (by decide +kernel))
theorem gM_307 {v : Int32} (C : FC X Y l0 cc nL RX12 rm mc ms ret) (hd : decode cc pc = .ok (.getfield 307, 3)) (hv : h 0 39 = v) (k : FJ X Y ad 50 SM h (pc + 3) lv (.int v :: st)) : FJ X Y ad 50 SM h pc lv (.ref (ad 0) :: st) := j_get (j := 39) C hd (by decide) rfl rfl inM (by decide) lf_307 rfl (by subst hv; rfl) k
theorem pM_307 {v : Int32} (C : FC X Y l0 cc nL RX12 rm mc ms ret) (hd : decode cc pc = .ok (.putfield 307, 3)) (k : FJ X Y ad 50 SM (hs h 0 39 v) (pc + 3) lv st) : FJ X Y ad 50 SM h pc lv (.int v :: .ref (ad 0) :: st) := j_put (ty := .int) (j := 39) C hd (by decide) rfl rfl inM tyX12_ok nmX12 (by decide) lf_307 rfl rfl rfl (by decide +kernel) rfl rfl k
theorem lf_310 : Cond.fieldLink RX12 310 (TX12 40).1 (TX12 40).2.1 (TX12 40).2.2.1 ∈ TW := (TWt 1160 (by decide +kernel) (by decide +kernel))
theorem gM_310 {v : Int32} (C : FC X Y l0 cc nL RX12 rm mc ms ret) (hd : decode cc pc = .ok (.getfield 310, 3)) (hv : h 0 40 = v) (k : FJ X Y ad 50 SM h (pc + 3) lv (.int v :: st)) : FJ X Y ad 50 SM h pc lv (.ref (ad 0) :: st) := j_get (j := 40) C hd (by decide) rfl rfl inM (by decide) lf_310 rfl (by subst hv; rfl) k
theorem pM_310 {v : Int32} (C : FC X Y l0 cc nL RX12 rm mc ms ret) (hd : decode cc pc = .ok (.putfield 310, 3)) (k : FJ X Y ad 50 SM (hs h 0 40 v) (pc + 3) lv st) : FJ X Y ad 50 SM h pc lv (.int v :: .ref (ad 0) :: st) := j_put (ty := .int) (j := 40) C hd (by decide) rfl rfl inM tyX12_ok nmX12 (by decide) lf_310 rfl rfl rfl (by decide +kernel) rfl rfl k
theorem lf_313 : Cond.fieldLink RX12 313 (TX12 41).1 (TX12 41).2.1 (TX12 41).2.2.1 ∈ TW := (TWt 1161 (by decide +kernel) (by decide +kernel))
theorem gM_313 {v : Int32} (C : FC X Y l0 cc nL RX12 rm mc ms ret) (hd : decode cc pc = .ok (.getfield 313, 3)) (hv : h 0 41 = v) (k : FJ X Y ad 50 SM h (pc + 3) lv (.int v :: st)) : FJ X Y ad 50 SM h pc lv (.ref (ad 0) :: st) := j_get (j := 41) C hd (by decide) rfl rfl inM (by decide) lf_313 rfl (by subst hv; rfl) k
theorem pM_313 {v : Int32} (C : FC X Y l0 cc nL RX12 rm mc ms ret) (hd : decode cc pc = .ok (.putfield 313, 3)) (k : FJ X Y ad 50 SM (hs h 0 41 v) (pc + 3) lv st) : FJ X Y ad 50 SM h pc lv (.int v :: .ref (ad 0) :: st) := j_put (ty := .int) (j := 41) C hd (by decide) rfl rfl inM tyX12_ok nmX12 (by decide) lf_313 rfl rfl rfl (by decide +kernel) rfl rfl k
theorem lf_316 : Cond.fieldLink RX12 316 (TX12 42).1 (TX12 42).2.1 (TX12 42).2.2.1 ∈ TW := (TWt 1162 (by decide +kernel) (by decide +kernel))
theorem gM_316 {v : Int32} (C : FC X Y l0 cc nL RX12 rm mc ms ret) (hd : decode cc pc = .ok (.getfield 316, 3)) (hv : h 0 42 = v) (k : FJ X Y ad 50 SM h (pc + 3) lv (.int v :: st)) : FJ X Y ad 50 SM h pc lv (.ref (ad 0) :: st) := j_get (j := 42) C hd (by decide) rfl rfl inM (by decide) lf_316 rfl (by subst hv; rfl) k
theorem pM_316 {v : Int32} (C : FC X Y l0 cc nL RX12 rm mc ms ret) (hd : decode cc pc = .ok (.putfield 316, 3)) (k : FJ X Y ad 50 SM (hs h 0 42 v) (pc + 3) lv st) : FJ X Y ad 50 SM h pc lv (.int v :: .ref (ad 0) :: st) := j_put (ty := .int) (j := 42) C hd (by decide) rfl rfl inM tyX12_ok nmX12 (by decide) lf_316 rfl rfl rfl (by decide +kernel) rfl rfl k
theorem lf_340 : Cond.fieldLink RX12 340 (TX12 74).1 (TX12 74).2.1 (TX12 74).2.2.1 ∈ TW := (TWt 1193 (by decide +kernel) (by decide +kernel))
theorem gM_340 {v : Int32} (C : FC X Y l0 cc nL RX12 rm mc ms ret) (hd : decode cc pc = .ok (.getfield 340, 3)) (hv : h 0 74 = v) (k : FJ X Y ad 50 SM h (pc + 3) lv (.int v :: st)) : FJ X Y ad 50 SM h pc lv (.ref (ad 0) :: st) := j_get (j := 74) C hd (by decide) rfl rfl inM (by decide) lf_340 rfl (by subst hv; rfl) k
theorem pM_340 {v : Int32} (C : FC X Y l0 cc nL RX12 rm mc ms ret) (hd : decode cc pc = .ok (.putfield 340, 3)) (k : FJ X Y ad 50 SM (hs h 0 74 v) (pc + 3) lv st) : FJ X Y ad 50 SM h pc lv (.int v :: .ref (ad 0) :: st) := j_put (ty := .int) (j := 74) C hd (by decide) rfl rfl inM tyX12_ok nmX12 (by decide) lf_340 rfl rfl rfl (by decide +kernel) rfl rfl k
theorem lf_343 : Cond.fieldLink RX12 343 (TX12 67).1 (TX12 67).2.1 (TX12 67).2.2.1 ∈ TW := (TWt 1186 (by decide +kernel) (by decide +kernel))
theorem gM_343 {v : Int32} (C : FC X Y l0 cc nL RX12 rm mc ms ret) (hd : decode cc pc = .ok (.getfield 343, 3)) (hv : h 0 67 = v) (k : FJ X Y ad 50 SM h (pc + 3) lv (.int v :: st)) : FJ X Y ad 50 SM h pc lv (.ref (ad 0) :: st) := j_get (j := 67) C hd (by decide) rfl rfl inM (by decide) lf_343 rfl (by subst hv; rfl) k
theorem pM_343 {v : Int32} (C : FC X Y l0 cc nL RX12 rm mc ms ret) (hd : decode cc pc = .ok (.putfield 343, 3)) (k : FJ X Y ad 50 SM (hs h 0 67 v) (pc + 3) lv st) : FJ X Y ad 50 SM h pc lv (.int v :: .ref (ad 0) :: st) := j_put (ty := .int) (j := 67) C hd (by decide) rfl rfl inM tyX12_ok nmX12 (by decide) lf_343 rfl rfl rfl (by decide +kernel) rfl rfl k
theorem lf_346 : Cond.fieldLink RX12 346 (TX12 69).1 (TX12 69).2.1 (TX12 69).2.2.1 ∈ TW := (TWt 1188 (by decide +kernel) (by decide +kernel))
theorem gM_346 {v : Int32} (C : FC X Y l0 cc nL RX12 rm mc ms ret) (hd : decode cc pc = .ok (.getfield 346, 3)) (hv : h 0 69 = v) (k : FJ X Y ad 50 SM h (pc + 3) lv (.int v :: st)) : FJ X Y ad 50 SM h pc lv (.ref (ad 0) :: st) := j_get (j := 69) C hd (by decide) rfl rfl inM (by decide) lf_346 rfl (by subst hv; rfl) k
theorem pM_346 {v : Int32} (C : FC X Y l0 cc nL RX12 rm mc ms ret) (hd : decode cc pc = .ok (.putfield 346, 3)) (k : FJ X Y ad 50 SM (hs h 0 69 v) (pc + 3) lv st) : FJ X Y ad 50 SM h pc lv (.int v :: .ref (ad 0) :: st) := j_put (ty := .int) (j := 69) C hd (by decide) rfl rfl inM tyX12_ok nmX12 (by decide) lf_346 rfl rfl rfl (by decide +kernel) rfl rfl k
theorem lf_349 : Cond.fieldLink RX12 349 (TX12 70).1 (TX12 70).2.1 (TX12 70).2.2.1 ∈ TW := (TWt 1189 (by decide +kernel) (by decide +kernel))
theorem gM_349 {v : Int32} (C : FC X Y l0 cc nL RX12 rm mc ms ret) (hd : decode cc pc = .ok (.getfield 349, 3)) (hv : h 0 70 = v) (k : FJ X Y ad 50 SM h (pc + 3) lv (.int v :: st)) : FJ X Y ad 50 SM h pc lv (.ref (ad 0) :: st) := j_get (j := 70) C hd (by decide) rfl rfl inM (by decide) lf_349 rfl (by subst hv; rfl) k
theorem pM_349 {v : Int32} (C : FC X Y l0 cc nL RX12 rm mc ms ret) (hd : decode cc pc = .ok (.putfield 349, 3)) (k : FJ X Y ad 50 SM (hs h 0 70 v) (pc + 3) lv st) : FJ X Y ad 50 SM h pc lv (.int v :: .ref (ad 0) :: st) := j_put (ty := .int) (j := 70) C hd (by decide) rfl rfl inM tyX12_ok nmX12 (by decide) lf_349 rfl rfl rfl (by decide +kernel) rfl rfl k
theorem lf_352 : Cond.fieldLink RX12 352 (TX12 73).1 (TX12 73).2.1 (TX12 73).2.2.1 ∈ TW := (TWt 1192 (by decide +kernel) (by decide +kernel))
theorem gM_352 {v : Int32} (C : FC X Y l0 cc nL RX12 rm mc ms ret) (hd : decode cc pc = .ok (.getfield 352, 3)) (hv : h 0 73 = v) (k : FJ X Y ad 50 SM h (pc + 3) lv (.int v :: st)) : FJ X Y ad 50 SM h pc lv (.ref (ad 0) :: st) := j_get (j := 73) C hd (by decide) rfl rfl inM (by decide) lf_352 rfl (by subst hv; rfl) k
theorem pM_352 {v : Int32} (C : FC X Y l0 cc nL RX12 rm mc ms ret) (hd : decode cc pc = .ok (.putfield 352, 3)) (k : FJ X Y ad 50 SM (hs h 0 73 v) (pc + 3) lv st) : FJ X Y ad 50 SM h pc lv (.int v :: .ref (ad 0) :: st) := j_put (ty := .int) (j := 73) C hd (by decide) rfl rfl inM tyX12_ok nmX12 (by decide) lf_352 rfl rfl rfl (by decide +kernel) rfl rfl k
theorem lf_355 : Cond.fieldLink RX12 355 (TX12 68).1 (TX12 68).2.1 (TX12 68).2.2.1 ∈ TW := (TWt 1187 (by decide +kernel) (by decide +kernel))
theorem gM_355 {v : Int32} (C : FC X Y l0 cc nL RX12 rm mc ms ret) (hd : decode cc pc = .ok (.getfield 355, 3)) (hv : h 0 68 = v) (k : FJ X Y ad 50 SM h (pc + 3) lv (.int v :: st)) : FJ X Y ad 50 SM h pc lv (.ref (ad 0) :: st) := j_get (j := 68) C hd (by decide) rfl rfl inM (by decide) lf_355 rfl (by subst hv; rfl) k
theorem pM_355 {v : Int32} (C : FC X Y l0 cc nL RX12 rm mc ms ret) (hd : decode cc pc = .ok (.putfield 355, 3)) (k : FJ X Y ad 50 SM (hs h 0 68 v) (pc + 3) lv st) : FJ X Y ad 50 SM h pc lv (.int v :: .ref (ad 0) :: st) := j_put (ty := .int) (j := 68) C hd (by decide) rfl rfl inM tyX12_ok nmX12 (by decide) lf_355 rfl rfl rfl (by decide +kernel) rfl rfl k
end MF
theorem kl_RX12_167 : Cond.constantLong RX12 167 3 ∈ TW := (TWt 1374 (by decide +kernel) (by decide +kernel))
theorem kl_RX12_173 : Cond.constantLong RX12 173 19 ∈ TW := (TWt 1378 (by decide +kernel) (by decide +kernel))
theorem kl_RX12_175 : Cond.constantLong RX12 175 11 ∈ TW := (TWt 1387 (by decide +kernel) (by decide +kernel))
theorem kl_RX12_180 : Cond.constantLong RX12 180 100 ∈ TW := (TWt 1396 (by decide +kernel) (by decide +kernel))
theorem kl_RX12_325 : Cond.constantLong RX12 325 2 ∈ TW := (TWt 1540 (by decide +kernel) (by decide +kernel))
theorem kl_RX12_372 : Cond.constantLong RX12 372 6 ∈ TW := (TWt 1593 (by decide +kernel) (by decide +kernel))
theorem lk_RX12_169 : Cond.methodLink RX12 169 yX12_isIn ∈ TW := (TWt 1375 (by decide +kernel) (by decide +kernel))
theorem lk_RX12_204 : Cond.methodLink RX12 204 yX12_modulo ∈ TW := (TWt 1425 (by decide +kernel) (by decide +kernel))
theorem lk_RX12_208 : Cond.methodLink RX12 208 yX12_local ∈ TW := (TWt 1421 (by decide +kernel) (by decide +kernel))
theorem lk_RX12_211 : Cond.methodLink RX12 211 yX12_isLock ∈ TW := (TWt 1428 (by decide +kernel) (by decide +kernel))
theorem lk_RX12_215 : Cond.methodLink RX12 215 yX12_canGo ∈ TW := (TWt 1417 (by decide +kernel) (by decide +kernel))
theorem lk_RX12_221 : Cond.methodLink RX12 221 yX12_set ∈ TW := (TWt 1456 (by decide +kernel) (by decide +kernel))
theorem lk_RX12_225 : Cond.methodLink RX12 225 yX12_newThing ∈ TW := (TWt 1460 (by decide +kernel) (by decide +kernel))
theorem lk_RX12_246 : Cond.methodLink RX12 246 yX12_goTo ∈ TW := (TWt 1440 (by decide +kernel) (by decide +kernel))
theorem lk_RX12_253 : Cond.methodLink RX12 253 yX12_instruct ∈ TW := (TWt 1444 (by decide +kernel) (by decide +kernel))
theorem lk_RX12_256 : Cond.methodLink RX12 256 yX12_why ∈ TW := (TWt 1448 (by decide +kernel) (by decide +kernel))
theorem lk_RX12_260 : Cond.methodLink RX12 260 yX12_work ∈ TW := (TWt 1452 (by decide +kernel) (by decide +kernel))
theorem lk_RX12_264 : Cond.methodLink RX12 264 yX12_workPlain ∈ TW := (TWt 1464 (by decide +kernel) (by decide +kernel))
theorem lk_RX12_268 : Cond.methodLink RX12 268 yX12_state ∈ TW := (TWt 1413 (by decide +kernel) (by decide +kernel))
theorem lk_RX12_275 : Cond.methodLink RX12 275 yX12_step ∈ TW := (TWt 1436 (by decide +kernel) (by decide +kernel))
theorem lk_RX12_279 : Cond.methodLink RX12 279 yX12_keep ∈ TW := (TWt 1409 (by decide +kernel) (by decide +kernel))
theorem lk_RX12_282 : Cond.methodLink RX12 282 yX12_free ∈ TW := (TWt 1468 (by decide +kernel) (by decide +kernel))
theorem lk_RX12_285 : Cond.methodLink RX12 285 yX12_begin ∈ TW := (TWt 1405 (by decide +kernel) (by decide +kernel))
theorem lk_RX12_291 : Cond.methodLink RX12 291 yX12_stepKept ∈ TW := (TWt 1432 (by decide +kernel) (by decide +kernel))
theorem lk_RX12_297 : Cond.methodLink RX12 297 yX12_ending ∈ TW := (TWt 1472 (by decide +kernel) (by decide +kernel))
theorem lk_RX12_319 : Cond.methodLink RX12 319 yX12_toldThread ∈ TW := (TWt 1492 (by decide +kernel) (by decide +kernel))
theorem lk_RX12_322 : Cond.methodLink RX12 322 yX12_isThing ∈ TW := (TWt 1516 (by decide +kernel) (by decide +kernel))
theorem lk_RX12_327 : Cond.methodLink RX12 327 yX12_isWaking ∈ TW := (TWt 1553 (by decide +kernel) (by decide +kernel))
theorem lk_RX12_331 : Cond.methodLink RX12 331 yX12_isDirect ∈ TW := (TWt 1549 (by decide +kernel) (by decide +kernel))
theorem lk_RX12_334 : Cond.methodLink RX12 334 yX12_findAhead ∈ TW := (TWt 1545 (by decide +kernel) (by decide +kernel))
theorem lk_RX12_337 : Cond.methodLink RX12 337 yX12_racing ∈ TW := (TWt 1561 (by decide +kernel) (by decide +kernel))
theorem lk_RX12_358 : Cond.methodLink RX12 358 yX12_tryRun ∈ TW := (TWt 1573 (by decide +kernel) (by decide +kernel))
theorem lk_RX12_362 : Cond.methodLink RX12 362 yX12_isOver ∈ TW := (TWt 1577 (by decide +kernel) (by decide +kernel))
theorem lk_RX12_365 : Cond.methodLink RX12 365 yX12_tryLast ∈ TW := (TWt 1581 (by decide +kernel) (by decide +kernel))
theorem lk_RX12_369 : Cond.methodLink RX12 369 yX12_tryBoth ∈ TW := (TWt 1585 (by decide +kernel) (by decide +kernel))
theorem lk_RX12_374 : Cond.methodLink RX12 374 yX12_isShelf ∈ TW := (TWt 1598 (by decide +kernel) (by decide +kernel))
theorem lk_RX12_377 : Cond.methodLink RX12 377 yX12_hasPlaces ∈ TW := (TWt 1613 (by decide +kernel) (by decide +kernel))
theorem lk_RX12_380 : Cond.methodLink RX12 380 yX12_denied ∈ TW := (TWt 1621 (by decide +kernel) (by decide +kernel))
theorem st_X12_isIn : Cond.static yX12_isIn ∈ TW := (TWt 1376 (by decide +kernel) (by decide +kernel))
set_option maxRecDepth 16384 in
theorem CKX12_isIn {rm : Room} (q : ({ frames := 0, cells := 0, slots := 0, locals := 0 } : Room).frames + 1 ≤ rm.frames ∧ 8 + (6 + 11) + ({ frames := 0, cells := 0, slots := 0, locals := 0 } : Room).locals ≤ rm.locals) : CK rm yX12_isIn cX12_isIn 6 (some .boolean) ({ frames := 0, cells := 0, slots := 0, locals := 0 } : Room) 3 := ⟨(TWt 1377 rfl (by decide +kernel)), (TWt 7 (by decide +kernel) (by decide +kernel)), ⟨by decide, by decide⟩, by decide +kernel, q.1, q.2⟩
theorem st_X12_modulo : Cond.static yX12_modulo ∈ TW := (TWt 1426 (by decide +kernel) (by decide +kernel))
set_option maxRecDepth 16384 in
theorem CKX12_modulo {rm : Room} (q : ({ frames := 0, cells := 0, slots := 0, locals := 0 } : Room).frames + 1 ≤ rm.frames ∧ 8 + (2 + 11) + ({ frames := 0, cells := 0, slots := 0, locals := 0 } : Room).locals ≤ rm.locals) : CK rm yX12_modulo cX12_modulo 2 (some .int) ({ frames := 0, cells := 0, slots := 0, locals := 0 } : Room) 2 := ⟨(TWt 1427 rfl (by decide +kernel)), (TWt 7 (by decide +kernel) (by decide +kernel)), ⟨by decide, by decide⟩, by decide +kernel, q.1, q.2⟩
theorem in_X12_code : Cond.instanceMethod yX12_code ∈ TW := (TWt 1371 (by decide +kernel) (by decide +kernel))
theorem se_X12_code : Cond.selects yX12_code.cls yX12_code yX12_code ∈ TW := (TWt 1372 (by decide +kernel) (by decide +kernel))
set_option maxRecDepth 16384 in
theorem CKX12_code {rm : Room} (q : ({ frames := 1, cells := 0, slots := 0, locals := 25 } : Room).frames + 1 ≤ rm.frames ∧ 8 + (7 + 11) + ({ frames := 1, cells := 0, slots := 0, locals := 25 } : Room).locals ≤ rm.locals) : CK rm yX12_code cX12_code 7 (some .int) ({ frames := 1, cells := 0, slots := 0, locals := 25 } : Room) 5 := ⟨(TWt 1373 rfl (by decide +kernel)), (TWt 7 (by decide +kernel) (by decide +kernel)), ⟨by decide, by decide⟩, by decide +kernel, q.1, q.2⟩
theorem in_X12_clear : Cond.instanceMethod yX12_clear ∈ TW := (TWt 1380 (by decide +kernel) (by decide +kernel))
theorem se_X12_clear : Cond.selects yX12_clear.cls yX12_clear yX12_clear ∈ TW := (TWt 1381 (by decide +kernel) (by decide +kernel))
set_option maxRecDepth 16384 in
theorem CKX12_clear {rm : Room} (q : ({ frames := 1, cells := 0, slots := 0, locals := 25 } : Room).frames + 1 ≤ rm.frames ∧ 8 + (3 + 11) + ({ frames := 1, cells := 0, slots := 0, locals := 25 } : Room).locals ≤ rm.locals) : CK rm yX12_clear cX12_clear 3 (some .int) ({ frames := 1, cells := 0, slots := 0, locals := 25 } : Room) 1 := ⟨(TWt 1382 rfl (by decide +kernel)), (TWt 7 (by decide +kernel) (by decide +kernel)), ⟨by decide, by decide⟩, by decide +kernel, q.1, q.2⟩
theorem in_X12_cell : Cond.instanceMethod yX12_cell ∈ TW := (TWt 1384 (by decide +kernel) (by decide +kernel))
theorem se_X12_cell : Cond.selects yX12_cell.cls yX12_cell yX12_cell ∈ TW := (TWt 1385 (by decide +kernel) (by decide +kernel))
set_option maxRecDepth 16384 in
theorem CKX12_cell {rm : Room} (q : ({ frames := 1, cells := 0, slots := 0, locals := 25 } : Room).frames + 1 ≤ rm.frames ∧ 8 + (3 + 11) + ({ frames := 1, cells := 0, slots := 0, locals := 25 } : Room).locals ≤ rm.locals) : CK rm yX12_cell cX12_cell 3 (some .int) ({ frames := 1, cells := 0, slots := 0, locals := 25 } : Room) 2 := ⟨(TWt 1386 rfl (by decide +kernel)), (TWt 7 (by decide +kernel) (by decide +kernel)), ⟨by decide, by decide⟩, by decide +kernel, q.1, q.2⟩
theorem in_X12_input : Cond.instanceMethod yX12_input ∈ TW := (TWt 1389 (by decide +kernel) (by decide +kernel))
theorem se_X12_input : Cond.selects yX12_input.cls yX12_input yX12_input ∈ TW := (TWt 1390 (by decide +kernel) (by decide +kernel))
set_option maxRecDepth 16384 in
theorem CKX12_input {rm : Room} (q : ({ frames := 0, cells := 0, slots := 0, locals := 0 } : Room).frames + 1 ≤ rm.frames ∧ 8 + (2 + 11) + ({ frames := 0, cells := 0, slots := 0, locals := 0 } : Room).locals ≤ rm.locals) : CK rm yX12_input cX12_input 2 (some .int) ({ frames := 0, cells := 0, slots := 0, locals := 0 } : Room) 1 := ⟨(TWt 1391 rfl (by decide +kernel)), (TWt 7 (by decide +kernel) (by decide +kernel)), ⟨by decide, by decide⟩, by decide +kernel, q.1, q.2⟩
theorem in_X12_turn : Cond.instanceMethod yX12_turn ∈ TW := (TWt 1393 (by decide +kernel) (by decide +kernel))
theorem se_X12_turn : Cond.selects yX12_turn.cls yX12_turn yX12_turn ∈ TW := (TWt 1394 (by decide +kernel) (by decide +kernel))
set_option maxRecDepth 16384 in
theorem CKX12_turn {rm : Room} (q : ({ frames := 1, cells := 0, slots := 0, locals := 25 } : Room).frames + 1 ≤ rm.frames ∧ 8 + (3 + 11) + ({ frames := 1, cells := 0, slots := 0, locals := 25 } : Room).locals ≤ rm.locals) : CK rm yX12_turn cX12_turn 3 (some .int) ({ frames := 1, cells := 0, slots := 0, locals := 25 } : Room) 2 := ⟨(TWt 1395 rfl (by decide +kernel)), (TWt 7 (by decide +kernel) (by decide +kernel)), ⟨by decide, by decide⟩, by decide +kernel, q.1, q.2⟩
theorem in_X12_freely : Cond.instanceMethod yX12_freely ∈ TW := (TWt 1398 (by decide +kernel) (by decide +kernel))
theorem se_X12_freely : Cond.selects yX12_freely.cls yX12_freely yX12_freely ∈ TW := (TWt 1399 (by decide +kernel) (by decide +kernel))
set_option maxRecDepth 16384 in
theorem CKX12_freely {rm : Room} (q : ({ frames := 0, cells := 0, slots := 0, locals := 0 } : Room).frames + 1 ≤ rm.frames ∧ 8 + (2 + 11) + ({ frames := 0, cells := 0, slots := 0, locals := 0 } : Room).locals ≤ rm.locals) : CK rm yX12_freely cX12_freely 2 (some .int) ({ frames := 0, cells := 0, slots := 0, locals := 0 } : Room) 0 := ⟨(TWt 1400 rfl (by decide +kernel)), (TWt 7 (by decide +kernel) (by decide +kernel)), ⟨by decide, by decide⟩, by decide +kernel, q.1, q.2⟩
theorem in_X12_begin : Cond.instanceMethod yX12_begin ∈ TW := (TWt 1407 (by decide +kernel) (by decide +kernel))
theorem se_X12_begin : Cond.selects yX12_begin.cls yX12_begin yX12_begin ∈ TW := (TWp 46 (by decide +kernel) (by decide +kernel))
set_option maxRecDepth 16384 in
theorem CKX12_begin {rm : Room} (q : ({ frames := 0, cells := 0, slots := 0, locals := 0 } : Room).frames + 1 ≤ rm.frames ∧ 8 + (2 + 11) + ({ frames := 0, cells := 0, slots := 0, locals := 0 } : Room).locals ≤ rm.locals) : CK rm yX12_begin cX12_begin 2 none ({ frames := 0, cells := 0, slots := 0, locals := 0 } : Room) 0 := ⟨(TWt 1408 rfl (by decide +kernel)), (TWt 7 (by decide +kernel) (by decide +kernel)), ⟨by decide, by decide⟩, by decide +kernel, q.1, q.2⟩
theorem in_X12_local : Cond.instanceMethod yX12_local ∈ TW := (TWt 1423 (by decide +kernel) (by decide +kernel))
theorem se_X12_local : Cond.selects yX12_local.cls yX12_local yX12_local ∈ TW := (TWp 50 (by decide +kernel) (by decide +kernel))
set_option maxRecDepth 16384 in
theorem CKX12_local {rm : Room} (q : ({ frames := 1, cells := 0, slots := 0, locals := 21 } : Room).frames + 1 ≤ rm.frames ∧ 8 + (3 + 11) + ({ frames := 1, cells := 0, slots := 0, locals := 21 } : Room).locals ≤ rm.locals) : CK rm yX12_local cX12_local 3 (some .int) ({ frames := 1, cells := 0, slots := 0, locals := 21 } : Room) 2 := ⟨(TWt 1424 rfl (by decide +kernel)), (TWt 7 (by decide +kernel) (by decide +kernel)), ⟨by decide, by decide⟩, by decide +kernel, q.1, q.2⟩
theorem in_X12_isLock : Cond.instanceMethod yX12_isLock ∈ TW := (TWt 1430 (by decide +kernel) (by decide +kernel))
theorem se_X12_isLock : Cond.selects yX12_isLock.cls yX12_isLock yX12_isLock ∈ TW := (TWp 51 (by decide +kernel) (by decide +kernel))
set_option maxRecDepth 16384 in
theorem CKX12_isLock {rm : Room} (q : ({ frames := 0, cells := 0, slots := 0, locals := 0 } : Room).frames + 1 ≤ rm.frames ∧ 8 + (2 + 11) + ({ frames := 0, cells := 0, slots := 0, locals := 0 } : Room).locals ≤ rm.locals) : CK rm yX12_isLock cX12_isLock 2 (some .boolean) ({ frames := 0, cells := 0, slots := 0, locals := 0 } : Room) 1 := ⟨(TWt 1431 rfl (by decide +kernel)), (TWt 7 (by decide +kernel) (by decide +kernel)), ⟨by decide, by decide⟩, by decide +kernel, q.1, q.2⟩
theorem in_X12_canGo : Cond.instanceMethod yX12_canGo ∈ TW := (TWt 1419 (by decide +kernel) (by decide +kernel))
theorem se_X12_canGo : Cond.selects yX12_canGo.cls yX12_canGo yX12_canGo ∈ TW := (TWp 49 (by decide +kernel) (by decide +kernel))
set_option maxRecDepth 16384 in
theorem CKX12_canGo {rm : Room} (q : ({ frames := 2, cells := 0, slots := 0, locals := 43 } : Room).frames + 1 ≤ rm.frames ∧ 8 + (5 + 11) + ({ frames := 2, cells := 0, slots := 0, locals := 43 } : Room).locals ≤ rm.locals) : CK rm yX12_canGo cX12_canGo 5 (some .boolean) ({ frames := 2, cells := 0, slots := 0, locals := 43 } : Room) 1 := ⟨(TWt 1420 rfl (by decide +kernel)), (TWt 7 (by decide +kernel) (by decide +kernel)), ⟨by decide, by decide⟩, by decide +kernel, q.1, q.2⟩
theorem in_X12_state : Cond.instanceMethod yX12_state ∈ TW := (TWt 1415 (by decide +kernel) (by decide +kernel))
theorem se_X12_state : Cond.selects yX12_state.cls yX12_state yX12_state ∈ TW := (TWp 48 (by decide +kernel) (by decide +kernel))
set_option maxRecDepth 16384 in
theorem CKX12_state {rm : Room} (q : ({ frames := 3, cells := 0, slots := 0, locals := 67 } : Room).frames + 1 ≤ rm.frames ∧ 8 + (2 + 11) + ({ frames := 3, cells := 0, slots := 0, locals := 67 } : Room).locals ≤ rm.locals) : CK rm yX12_state cX12_state 2 (some .int) ({ frames := 3, cells := 0, slots := 0, locals := 67 } : Room) 1 := ⟨(TWt 1416 rfl (by decide +kernel)), (TWt 7 (by decide +kernel) (by decide +kernel)), ⟨by decide, by decide⟩, by decide +kernel, q.1, q.2⟩
theorem in_X12_goTo : Cond.instanceMethod yX12_goTo ∈ TW := (TWt 1442 (by decide +kernel) (by decide +kernel))
theorem se_X12_goTo : Cond.selects yX12_goTo.cls yX12_goTo yX12_goTo ∈ TW := (TWp 54 (by decide +kernel) (by decide +kernel))
set_option maxRecDepth 16384 in
theorem CKX12_goTo {rm : Room} (q : ({ frames := 0, cells := 0, slots := 0, locals := 0 } : Room).frames + 1 ≤ rm.frames ∧ 8 + (3 + 11) + ({ frames := 0, cells := 0, slots := 0, locals := 0 } : Room).locals ≤ rm.locals) : CK rm yX12_goTo cX12_goTo 3 none ({ frames := 0, cells := 0, slots := 0, locals := 0 } : Room) 2 := ⟨(TWt 1443 rfl (by decide +kernel)), (TWt 7 (by decide +kernel) (by decide +kernel)), ⟨by decide, by decide⟩, by decide +kernel, q.1, q.2⟩
theorem in_X12_set : Cond.instanceMethod yX12_set ∈ TW := (TWt 1458 (by decide +kernel) (by decide +kernel))
theorem se_X12_set : Cond.selects yX12_set.cls yX12_set yX12_set ∈ TW := (TWp 58 (by decide +kernel) (by decide +kernel))
set_option maxRecDepth 16384 in
theorem CKX12_set {rm : Room} (q : ({ frames := 0, cells := 0, slots := 0, locals := 0 } : Room).frames + 1 ≤ rm.frames ∧ 8 + (4 + 11) + ({ frames := 0, cells := 0, slots := 0, locals := 0 } : Room).locals ≤ rm.locals) : CK rm yX12_set cX12_set 4 none ({ frames := 0, cells := 0, slots := 0, locals := 0 } : Room) 3 := ⟨(TWt 1459 rfl (by decide +kernel)), (TWt 7 (by decide +kernel) (by decide +kernel)), ⟨by decide, by decide⟩, by decide +kernel, q.1, q.2⟩
theorem in_X12_newThing : Cond.instanceMethod yX12_newThing ∈ TW := (TWt 1462 (by decide +kernel) (by decide +kernel))
theorem se_X12_newThing : Cond.selects yX12_newThing.cls yX12_newThing yX12_newThing ∈ TW := (TWp 59 (by decide +kernel) (by decide +kernel))
set_option maxRecDepth 16384 in
theorem CKX12_newThing {rm : Room} (q : ({ frames := 0, cells := 0, slots := 0, locals := 0 } : Room).frames + 1 ≤ rm.frames ∧ 8 + (5 + 11) + ({ frames := 0, cells := 0, slots := 0, locals := 0 } : Room).locals ≤ rm.locals) : CK rm yX12_newThing cX12_newThing 5 (some .int) ({ frames := 0, cells := 0, slots := 0, locals := 0 } : Room) 2 := ⟨(TWt 1463 rfl (by decide +kernel)), (TWt 7 (by decide +kernel) (by decide +kernel)), ⟨by decide, by decide⟩, by decide +kernel, q.1, q.2⟩
theorem in_X12_why : Cond.instanceMethod yX12_why ∈ TW := (TWt 1450 (by decide +kernel) (by decide +kernel))
theorem se_X12_why : Cond.selects yX12_why.cls yX12_why yX12_why ∈ TW := (TWp 56 (by decide +kernel) (by decide +kernel))
set_option maxRecDepth 16384 in
theorem CKX12_why {rm : Room} (q : ({ frames := 1, cells := 0, slots := 0, locals := 25 } : Room).frames + 1 ≤ rm.frames ∧ 8 + (7 + 11) + ({ frames := 1, cells := 0, slots := 0, locals := 25 } : Room).locals ≤ rm.locals) : CK rm yX12_why cX12_why 7 (some .int) ({ frames := 1, cells := 0, slots := 0, locals := 25 } : Room) 6 := ⟨(TWt 1451 rfl (by decide +kernel)), (TWt 7 (by decide +kernel) (by decide +kernel)), ⟨by decide, by decide⟩, by decide +kernel, q.1, q.2⟩
theorem in_X12_work : Cond.instanceMethod yX12_work ∈ TW := (TWt 1454 (by decide +kernel) (by decide +kernel))
theorem se_X12_work : Cond.selects yX12_work.cls yX12_work yX12_work ∈ TW := (TWp 57 (by decide +kernel) (by decide +kernel))
set_option maxRecDepth 16384 in
theorem CKX12_work {rm : Room} (q : ({ frames := 1, cells := 0, slots := 0, locals := 24 } : Room).frames + 1 ≤ rm.frames ∧ 8 + (7 + 11) + ({ frames := 1, cells := 0, slots := 0, locals := 24 } : Room).locals ≤ rm.locals) : CK rm yX12_work cX12_work 7 none ({ frames := 1, cells := 0, slots := 0, locals := 24 } : Room) 5 := ⟨(TWt 1455 rfl (by decide +kernel)), (TWt 7 (by decide +kernel) (by decide +kernel)), ⟨by decide, by decide⟩, by decide +kernel, q.1, q.2⟩
theorem in_X12_workPlain : Cond.instanceMethod yX12_workPlain ∈ TW := (TWt 1466 (by decide +kernel) (by decide +kernel))
theorem se_X12_workPlain : Cond.selects yX12_workPlain.cls yX12_workPlain yX12_workPlain ∈ TW := (TWp 60 (by decide +kernel) (by decide +kernel))
set_option maxRecDepth 16384 in
theorem CKX12_workPlain {rm : Room} (q : ({ frames := 1, cells := 0, slots := 0, locals := 24 } : Room).frames + 1 ≤ rm.frames ∧ 8 + (8 + 11) + ({ frames := 1, cells := 0, slots := 0, locals := 24 } : Room).locals ≤ rm.locals) : CK rm yX12_workPlain cX12_workPlain 8 none ({ frames := 1, cells := 0, slots := 0, locals := 24 } : Room) 4 := ⟨(TWt 1467 rfl (by decide +kernel)), (TWt 7 (by decide +kernel) (by decide +kernel)), ⟨by decide, by decide⟩, by decide +kernel, q.1, q.2⟩
theorem in_X12_step : Cond.instanceMethod yX12_step ∈ TW := (TWt 1438 (by decide +kernel) (by decide +kernel))
theorem se_X12_step : Cond.selects yX12_step.cls yX12_step yX12_step ∈ TW := (TWp 53 (by decide +kernel) (by decide +kernel))
set_option maxRecDepth 16384 in
theorem CKX12_step {rm : Room} (q : ({ frames := 3, cells := 0, slots := 0, locals := 78 } : Room).frames + 1 ≤ rm.frames ∧ 8 + (3 + 11) + ({ frames := 3, cells := 0, slots := 0, locals := 78 } : Room).locals ≤ rm.locals) : CK rm yX12_step cX12_step 3 none ({ frames := 3, cells := 0, slots := 0, locals := 78 } : Room) 1 := ⟨(TWt 1439 rfl (by decide +kernel)), (TWt 7 (by decide +kernel) (by decide +kernel)), ⟨by decide, by decide⟩, by decide +kernel, q.1, q.2⟩
theorem in_X12_instruct : Cond.instanceMethod yX12_instruct ∈ TW := (TWt 1446 (by decide +kernel) (by decide +kernel))
theorem se_X12_instruct : Cond.selects yX12_instruct.cls yX12_instruct yX12_instruct ∈ TW := (TWp 55 (by decide +kernel) (by decide +kernel))
set_option maxRecDepth 16384 in
theorem CKX12_instruct {rm : Room} (q : ({ frames := 2, cells := 0, slots := 0, locals := 51 } : Room).frames + 1 ≤ rm.frames ∧ 8 + (8 + 11) + ({ frames := 2, cells := 0, slots := 0, locals := 51 } : Room).locals ≤ rm.locals) : CK rm yX12_instruct cX12_instruct 8 none ({ frames := 2, cells := 0, slots := 0, locals := 51 } : Room) 2 := ⟨(TWt 1447 rfl (by decide +kernel)), (TWt 7 (by decide +kernel) (by decide +kernel)), ⟨by decide, by decide⟩, by decide +kernel, q.1, q.2⟩
theorem in_X12_free : Cond.instanceMethod yX12_free ∈ TW := (TWt 1470 (by decide +kernel) (by decide +kernel))
theorem se_X12_free : Cond.selects yX12_free.cls yX12_free yX12_free ∈ TW := (TWp 61 (by decide +kernel) (by decide +kernel))
set_option maxRecDepth 16384 in
theorem CKX12_free {rm : Room} (q : ({ frames := 3, cells := 0, slots := 0, locals := 67 } : Room).frames + 1 ≤ rm.frames ∧ 8 + (3 + 11) + ({ frames := 3, cells := 0, slots := 0, locals := 67 } : Room).locals ≤ rm.locals) : CK rm yX12_free cX12_free 3 (some .int) ({ frames := 3, cells := 0, slots := 0, locals := 67 } : Room) 1 := ⟨(TWt 1471 rfl (by decide +kernel)), (TWt 7 (by decide +kernel) (by decide +kernel)), ⟨by decide, by decide⟩, by decide +kernel, q.1, q.2⟩
theorem in_X12_keep : Cond.instanceMethod yX12_keep ∈ TW := (TWt 1411 (by decide +kernel) (by decide +kernel))
theorem se_X12_keep : Cond.selects yX12_keep.cls yX12_keep yX12_keep ∈ TW := (TWp 47 (by decide +kernel) (by decide +kernel))
set_option maxRecDepth 16384 in
theorem CKX12_keep {rm : Room} (q : ({ frames := 4, cells := 0, slots := 0, locals := 88 } : Room).frames + 1 ≤ rm.frames ∧ 8 + (3 + 11) + ({ frames := 4, cells := 0, slots := 0, locals := 88 } : Room).locals ≤ rm.locals) : CK rm yX12_keep cX12_keep 3 none ({ frames := 4, cells := 0, slots := 0, locals := 88 } : Room) 1 := ⟨(TWt 1412 rfl (by decide +kernel)), (TWt 7 (by decide +kernel) (by decide +kernel)), ⟨by decide, by decide⟩, by decide +kernel, q.1, q.2⟩
theorem in_X12_stepKept : Cond.instanceMethod yX12_stepKept ∈ TW := (TWt 1434 (by decide +kernel) (by decide +kernel))
theorem se_X12_stepKept : Cond.selects yX12_stepKept.cls yX12_stepKept yX12_stepKept ∈ TW := (TWp 52 (by decide +kernel) (by decide +kernel))
set_option maxRecDepth 16384 in
theorem CKX12_stepKept {rm : Room} (q : ({ frames := 5, cells := 0, slots := 0, locals := 110 } : Room).frames + 1 ≤ rm.frames ∧ 8 + (4 + 11) + ({ frames := 5, cells := 0, slots := 0, locals := 110 } : Room).locals ≤ rm.locals) : CK rm yX12_stepKept cX12_stepKept 4 none ({ frames := 5, cells := 0, slots := 0, locals := 110 } : Room) 1 := ⟨(TWt 1435 rfl (by decide +kernel)), (TWt 7 (by decide +kernel) (by decide +kernel)), ⟨by decide, by decide⟩, by decide +kernel, q.1, q.2⟩
theorem in_X12_ending : Cond.instanceMethod yX12_ending ∈ TW := (TWt 1474 (by decide +kernel) (by decide +kernel))
theorem se_X12_ending : Cond.selects yX12_ending.cls yX12_ending yX12_ending ∈ TW := (TWp 62 (by decide +kernel) (by decide +kernel))
set_option maxRecDepth 16384 in
theorem CKX12_ending {rm : Room} (q : ({ frames := 4, cells := 0, slots := 0, locals := 89 } : Room).frames + 1 ≤ rm.frames ∧ 8 + (3 + 11) + ({ frames := 4, cells := 0, slots := 0, locals := 89 } : Room).locals ≤ rm.locals) : CK rm yX12_ending cX12_ending 3 (some .int) ({ frames := 4, cells := 0, slots := 0, locals := 89 } : Room) 0 := ⟨(TWt 1475 rfl (by decide +kernel)), (TWt 7 (by decide +kernel) (by decide +kernel)), ⟨by decide, by decide⟩, by decide +kernel, q.1, q.2⟩
theorem in_X12_run : Cond.instanceMethod yX12_run ∈ TW := (TWt 1402 (by decide +kernel) (by decide +kernel))
theorem se_X12_run : Cond.selects yX12_run.cls yX12_run yX12_run ∈ TW := (TWt 1403 (by decide +kernel) (by decide +kernel))
set_option maxRecDepth 16384 in
theorem CKX12_run {rm : Room} (q : ({ frames := 6, cells := 0, slots := 0, locals := 133 } : Room).frames + 1 ≤ rm.frames ∧ 8 + (3 + 11) + ({ frames := 6, cells := 0, slots := 0, locals := 133 } : Room).locals ≤ rm.locals) : CK rm yX12_run cX12_run 3 (some .int) ({ frames := 6, cells := 0, slots := 0, locals := 133 } : Room) 0 := ⟨(TWt 1404 rfl (by decide +kernel)), (TWt 7 (by decide +kernel) (by decide +kernel)), ⟨by decide, by decide⟩, by decide +kernel, q.1, q.2⟩
theorem in_X12_told : Cond.instanceMethod yX12_told ∈ TW := (TWt 1477 (by decide +kernel) (by decide +kernel))
theorem se_X12_told : Cond.selects yX12_told.cls yX12_told yX12_told ∈ TW := (TWt 1478 (by decide +kernel) (by decide +kernel))
set_option maxRecDepth 16384 in
theorem CKX12_told {rm : Room} (q : ({ frames := 0, cells := 0, slots := 0, locals := 0 } : Room).frames + 1 ≤ rm.frames ∧ 8 + (2 + 11) + ({ frames := 0, cells := 0, slots := 0, locals := 0 } : Room).locals ≤ rm.locals) : CK rm yX12_told cX12_told 2 (some .int) ({ frames := 0, cells := 0, slots := 0, locals := 0 } : Room) 1 := ⟨(TWt 1479 rfl (by decide +kernel)), (TWt 7 (by decide +kernel) (by decide +kernel)), ⟨by decide, by decide⟩, by decide +kernel, q.1, q.2⟩
theorem in_X12_change : Cond.instanceMethod yX12_change ∈ TW := (TWt 1481 (by decide +kernel) (by decide +kernel))
theorem se_X12_change : Cond.selects yX12_change.cls yX12_change yX12_change ∈ TW := (TWt 1482 (by decide +kernel) (by decide +kernel))
set_option maxRecDepth 16384 in
theorem CKX12_change {rm : Room} (q : ({ frames := 1, cells := 0, slots := 0, locals := 25 } : Room).frames + 1 ≤ rm.frames ∧ 8 + (3 + 11) + ({ frames := 1, cells := 0, slots := 0, locals := 25 } : Room).locals ≤ rm.locals) : CK rm yX12_change cX12_change 3 (some .int) ({ frames := 1, cells := 0, slots := 0, locals := 25 } : Room) 2 := ⟨(TWt 1483 rfl (by decide +kernel)), (TWt 7 (by decide +kernel) (by decide +kernel)), ⟨by decide, by decide⟩, by decide +kernel, q.1, q.2⟩
theorem in_X12_step_ : Cond.instanceMethod yX12_step_ ∈ TW := (TWt 1485 (by decide +kernel) (by decide +kernel))
theorem se_X12_step_ : Cond.selects yX12_step_.cls yX12_step_ yX12_step_ ∈ TW := (TWt 1486 (by decide +kernel) (by decide +kernel))
set_option maxRecDepth 16384 in
theorem CKX12_step_ {rm : Room} (q : ({ frames := 1, cells := 0, slots := 0, locals := 25 } : Room).frames + 1 ≤ rm.frames ∧ 8 + (3 + 11) + ({ frames := 1, cells := 0, slots := 0, locals := 25 } : Room).locals ≤ rm.locals) : CK rm yX12_step_ cX12_step_ 3 (some .int) ({ frames := 1, cells := 0, slots := 0, locals := 25 } : Room) 2 := ⟨(TWt 1487 rfl (by decide +kernel)), (TWt 7 (by decide +kernel) (by decide +kernel)), ⟨by decide, by decide⟩, by decide +kernel, q.1, q.2⟩
theorem in_X12_toldThread : Cond.instanceMethod yX12_toldThread ∈ TW := (TWt 1494 (by decide +kernel) (by decide +kernel))
theorem se_X12_toldThread : Cond.selects yX12_toldThread.cls yX12_toldThread yX12_toldThread ∈ TW := (TWp 63 (by decide +kernel) (by decide +kernel))
set_option maxRecDepth 16384 in
theorem CKX12_toldThread {rm : Room} (q : ({ frames := 0, cells := 0, slots := 0, locals := 0 } : Room).frames + 1 ≤ rm.frames ∧ 8 + (5 + 11) + ({ frames := 0, cells := 0, slots := 0, locals := 0 } : Room).locals ≤ rm.locals) : CK rm yX12_toldThread cX12_toldThread 5 (some .int) ({ frames := 0, cells := 0, slots := 0, locals := 0 } : Room) 2 := ⟨(TWt 1495 rfl (by decide +kernel)), (TWt 7 (by decide +kernel) (by decide +kernel)), ⟨by decide, by decide⟩, by decide +kernel, q.1, q.2⟩
theorem in_X12_play : Cond.instanceMethod yX12_play ∈ TW := (TWt 1489 (by decide +kernel) (by decide +kernel))
theorem se_X12_play : Cond.selects yX12_play.cls yX12_play yX12_play ∈ TW := (TWt 1490 (by decide +kernel) (by decide +kernel))
set_option maxRecDepth 16384 in
theorem CKX12_play {rm : Room} (q : ({ frames := 4, cells := 0, slots := 0, locals := 100 } : Room).frames + 1 ≤ rm.frames ∧ 8 + (6 + 11) + ({ frames := 4, cells := 0, slots := 0, locals := 100 } : Room).locals ≤ rm.locals) : CK rm yX12_play cX12_play 6 (some .int) ({ frames := 4, cells := 0, slots := 0, locals := 100 } : Room) 2 := ⟨(TWt 1491 rfl (by decide +kernel)), (TWt 7 (by decide +kernel) (by decide +kernel)), ⟨by decide, by decide⟩, by decide +kernel, q.1, q.2⟩
theorem in_X12_ended : Cond.instanceMethod yX12_ended ∈ TW := (TWt 1497 (by decide +kernel) (by decide +kernel))
theorem se_X12_ended : Cond.selects yX12_ended.cls yX12_ended yX12_ended ∈ TW := (TWt 1498 (by decide +kernel) (by decide +kernel))
set_option maxRecDepth 16384 in
theorem CKX12_ended {rm : Room} (q : ({ frames := 0, cells := 0, slots := 0, locals := 0 } : Room).frames + 1 ≤ rm.frames ∧ 8 + (1 + 11) + ({ frames := 0, cells := 0, slots := 0, locals := 0 } : Room).locals ≤ rm.locals) : CK rm yX12_ended cX12_ended 1 (some .int) ({ frames := 0, cells := 0, slots := 0, locals := 0 } : Room) 0 := ⟨(TWt 1499 rfl (by decide +kernel)), (TWt 7 (by decide +kernel) (by decide +kernel)), ⟨by decide, by decide⟩, by decide +kernel, q.1, q.2⟩
theorem in_X12_to : Cond.instanceMethod yX12_to ∈ TW := (TWt 1501 (by decide +kernel) (by decide +kernel))
theorem se_X12_to : Cond.selects yX12_to.cls yX12_to yX12_to ∈ TW := (TWt 1502 (by decide +kernel) (by decide +kernel))
set_option maxRecDepth 16384 in
theorem CKX12_to {rm : Room} (q : ({ frames := 1, cells := 0, slots := 0, locals := 25 } : Room).frames + 1 ≤ rm.frames ∧ 8 + (2 + 11) + ({ frames := 1, cells := 0, slots := 0, locals := 25 } : Room).locals ≤ rm.locals) : CK rm yX12_to cX12_to 2 (some .int) ({ frames := 1, cells := 0, slots := 0, locals := 25 } : Room) 1 := ⟨(TWt 1503 rfl (by decide +kernel)), (TWt 7 (by decide +kernel) (by decide +kernel)), ⟨by decide, by decide⟩, by decide +kernel, q.1, q.2⟩
theorem in_X12_back : Cond.instanceMethod yX12_back ∈ TW := (TWt 1505 (by decide +kernel) (by decide +kernel))
theorem se_X12_back : Cond.selects yX12_back.cls yX12_back yX12_back ∈ TW := (TWt 1506 (by decide +kernel) (by decide +kernel))
set_option maxRecDepth 16384 in
theorem CKX12_back {rm : Room} (q : ({ frames := 0, cells := 0, slots := 0, locals := 0 } : Room).frames + 1 ≤ rm.frames ∧ 8 + (2 + 11) + ({ frames := 0, cells := 0, slots := 0, locals := 0 } : Room).locals ≤ rm.locals) : CK rm yX12_back cX12_back 2 (some .int) ({ frames := 0, cells := 0, slots := 0, locals := 0 } : Room) 1 := ⟨(TWt 1507 rfl (by decide +kernel)), (TWt 7 (by decide +kernel) (by decide +kernel)), ⟨by decide, by decide⟩, by decide +kernel, q.1, q.2⟩
theorem in_X12_value : Cond.instanceMethod yX12_value ∈ TW := (TWt 1509 (by decide +kernel) (by decide +kernel))
theorem se_X12_value : Cond.selects yX12_value.cls yX12_value yX12_value ∈ TW := (TWt 1510 (by decide +kernel) (by decide +kernel))
set_option maxRecDepth 16384 in
theorem CKX12_value {rm : Room} (q : ({ frames := 1, cells := 0, slots := 0, locals := 25 } : Room).frames + 1 ≤ rm.frames ∧ 8 + (6 + 11) + ({ frames := 1, cells := 0, slots := 0, locals := 25 } : Room).locals ≤ rm.locals) : CK rm yX12_value cX12_value 6 (some .int) ({ frames := 1, cells := 0, slots := 0, locals := 25 } : Room) 3 := ⟨(TWt 1511 rfl (by decide +kernel)), (TWt 7 (by decide +kernel) (by decide +kernel)), ⟨by decide, by decide⟩, by decide +kernel, q.1, q.2⟩
theorem in_X12_isThing : Cond.instanceMethod yX12_isThing ∈ TW := (TWt 1518 (by decide +kernel) (by decide +kernel))
theorem se_X12_isThing : Cond.selects yX12_isThing.cls yX12_isThing yX12_isThing ∈ TW := (TWp 64 (by decide +kernel) (by decide +kernel))
set_option maxRecDepth 16384 in
theorem CKX12_isThing {rm : Room} (q : ({ frames := 0, cells := 0, slots := 0, locals := 0 } : Room).frames + 1 ≤ rm.frames ∧ 8 + (2 + 11) + ({ frames := 0, cells := 0, slots := 0, locals := 0 } : Room).locals ≤ rm.locals) : CK rm yX12_isThing cX12_isThing 2 (some .boolean) ({ frames := 0, cells := 0, slots := 0, locals := 0 } : Room) 1 := ⟨(TWt 1519 rfl (by decide +kernel)), (TWt 7 (by decide +kernel) (by decide +kernel)), ⟨by decide, by decide⟩, by decide +kernel, q.1, q.2⟩
theorem in_X12_thing : Cond.instanceMethod yX12_thing ∈ TW := (TWt 1513 (by decide +kernel) (by decide +kernel))
theorem se_X12_thing : Cond.selects yX12_thing.cls yX12_thing yX12_thing ∈ TW := (TWt 1514 (by decide +kernel) (by decide +kernel))
set_option maxRecDepth 16384 in
theorem CKX12_thing {rm : Room} (q : ({ frames := 1, cells := 0, slots := 0, locals := 25 } : Room).frames + 1 ≤ rm.frames ∧ 8 + (5 + 11) + ({ frames := 1, cells := 0, slots := 0, locals := 25 } : Room).locals ≤ rm.locals) : CK rm yX12_thing cX12_thing 5 (some .int) ({ frames := 1, cells := 0, slots := 0, locals := 25 } : Room) 2 := ⟨(TWt 1515 rfl (by decide +kernel)), (TWt 7 (by decide +kernel) (by decide +kernel)), ⟨by decide, by decide⟩, by decide +kernel, q.1, q.2⟩
theorem in_X12_place : Cond.instanceMethod yX12_place ∈ TW := (TWt 1521 (by decide +kernel) (by decide +kernel))
theorem se_X12_place : Cond.selects yX12_place.cls yX12_place yX12_place ∈ TW := (TWt 1522 (by decide +kernel) (by decide +kernel))
set_option maxRecDepth 16384 in
theorem CKX12_place {rm : Room} (q : ({ frames := 1, cells := 0, slots := 0, locals := 25 } : Room).frames + 1 ≤ rm.frames ∧ 8 + (4 + 11) + ({ frames := 1, cells := 0, slots := 0, locals := 25 } : Room).locals ≤ rm.locals) : CK rm yX12_place cX12_place 4 (some .int) ({ frames := 1, cells := 0, slots := 0, locals := 25 } : Room) 2 := ⟨(TWt 1523 rfl (by decide +kernel)), (TWt 7 (by decide +kernel) (by decide +kernel)), ⟨by decide, by decide⟩, by decide +kernel, q.1, q.2⟩
theorem in_X12_thread : Cond.instanceMethod yX12_thread ∈ TW := (TWt 1525 (by decide +kernel) (by decide +kernel))
theorem se_X12_thread : Cond.selects yX12_thread.cls yX12_thread yX12_thread ∈ TW := (TWt 1526 (by decide +kernel) (by decide +kernel))
set_option maxRecDepth 16384 in
theorem CKX12_thread {rm : Room} (q : ({ frames := 1, cells := 0, slots := 0, locals := 25 } : Room).frames + 1 ≤ rm.frames ∧ 8 + (3 + 11) + ({ frames := 1, cells := 0, slots := 0, locals := 25 } : Room).locals ≤ rm.locals) : CK rm yX12_thread cX12_thread 3 (some .int) ({ frames := 1, cells := 0, slots := 0, locals := 25 } : Room) 2 := ⟨(TWt 1527 rfl (by decide +kernel)), (TWt 7 (by decide +kernel) (by decide +kernel)), ⟨by decide, by decide⟩, by decide +kernel, q.1, q.2⟩
theorem in_X12_last : Cond.instanceMethod yX12_last ∈ TW := (TWt 1529 (by decide +kernel) (by decide +kernel))
theorem se_X12_last : Cond.selects yX12_last.cls yX12_last yX12_last ∈ TW := (TWt 1530 (by decide +kernel) (by decide +kernel))
set_option maxRecDepth 16384 in
theorem CKX12_last {rm : Room} (q : ({ frames := 1, cells := 0, slots := 0, locals := 25 } : Room).frames + 1 ≤ rm.frames ∧ 8 + (5 + 11) + ({ frames := 1, cells := 0, slots := 0, locals := 25 } : Room).locals ≤ rm.locals) : CK rm yX12_last cX12_last 5 (some .int) ({ frames := 1, cells := 0, slots := 0, locals := 25 } : Room) 2 := ⟨(TWt 1531 rfl (by decide +kernel)), (TWt 7 (by decide +kernel) (by decide +kernel)), ⟨by decide, by decide⟩, by decide +kernel, q.1, q.2⟩
theorem in_X12_next : Cond.instanceMethod yX12_next ∈ TW := (TWt 1533 (by decide +kernel) (by decide +kernel))
theorem se_X12_next : Cond.selects yX12_next.cls yX12_next yX12_next ∈ TW := (TWt 1534 (by decide +kernel) (by decide +kernel))
set_option maxRecDepth 16384 in
theorem CKX12_next {rm : Room} (q : ({ frames := 1, cells := 0, slots := 0, locals := 25 } : Room).frames + 1 ≤ rm.frames ∧ 8 + (4 + 11) + ({ frames := 1, cells := 0, slots := 0, locals := 25 } : Room).locals ≤ rm.locals) : CK rm yX12_next cX12_next 4 (some .int) ({ frames := 1, cells := 0, slots := 0, locals := 25 } : Room) 2 := ⟨(TWt 1535 rfl (by decide +kernel)), (TWt 7 (by decide +kernel) (by decide +kernel)), ⟨by decide, by decide⟩, by decide +kernel, q.1, q.2⟩
theorem in_X12_when : Cond.instanceMethod yX12_when ∈ TW := (TWt 1537 (by decide +kernel) (by decide +kernel))
theorem se_X12_when : Cond.selects yX12_when.cls yX12_when yX12_when ∈ TW := (TWt 1538 (by decide +kernel) (by decide +kernel))
set_option maxRecDepth 16384 in
theorem CKX12_when {rm : Room} (q : ({ frames := 1, cells := 0, slots := 0, locals := 25 } : Room).frames + 1 ≤ rm.frames ∧ 8 + (10 + 11) + ({ frames := 1, cells := 0, slots := 0, locals := 25 } : Room).locals ≤ rm.locals) : CK rm yX12_when cX12_when 10 (some .int) ({ frames := 1, cells := 0, slots := 0, locals := 25 } : Room) 4 := ⟨(TWt 1539 rfl (by decide +kernel)), (TWt 7 (by decide +kernel) (by decide +kernel)), ⟨by decide, by decide⟩, by decide +kernel, q.1, q.2⟩
theorem in_X12_isDirect : Cond.instanceMethod yX12_isDirect ∈ TW := (TWt 1551 (by decide +kernel) (by decide +kernel))
theorem se_X12_isDirect : Cond.selects yX12_isDirect.cls yX12_isDirect yX12_isDirect ∈ TW := (TWp 66 (by decide +kernel) (by decide +kernel))
set_option maxRecDepth 16384 in
theorem CKX12_isDirect {rm : Room} (q : ({ frames := 1, cells := 0, slots := 0, locals := 25 } : Room).frames + 1 ≤ rm.frames ∧ 8 + (5 + 11) + ({ frames := 1, cells := 0, slots := 0, locals := 25 } : Room).locals ≤ rm.locals) : CK rm yX12_isDirect cX12_isDirect 5 (some .boolean) ({ frames := 1, cells := 0, slots := 0, locals := 25 } : Room) 2 := ⟨(TWt 1552 rfl (by decide +kernel)), (TWt 7 (by decide +kernel) (by decide +kernel)), ⟨by decide, by decide⟩, by decide +kernel, q.1, q.2⟩
theorem in_X12_isWaking : Cond.instanceMethod yX12_isWaking ∈ TW := (TWt 1555 (by decide +kernel) (by decide +kernel))
theorem se_X12_isWaking : Cond.selects yX12_isWaking.cls yX12_isWaking yX12_isWaking ∈ TW := (TWp 67 (by decide +kernel) (by decide +kernel))
set_option maxRecDepth 16384 in
theorem CKX12_isWaking {rm : Room} (q : ({ frames := 0, cells := 0, slots := 0, locals := 0 } : Room).frames + 1 ≤ rm.frames ∧ 8 + (6 + 11) + ({ frames := 0, cells := 0, slots := 0, locals := 0 } : Room).locals ≤ rm.locals) : CK rm yX12_isWaking cX12_isWaking 6 (some .boolean) ({ frames := 0, cells := 0, slots := 0, locals := 0 } : Room) 2 := ⟨(TWt 1556 rfl (by decide +kernel)), (TWt 7 (by decide +kernel) (by decide +kernel)), ⟨by decide, by decide⟩, by decide +kernel, q.1, q.2⟩
theorem in_X12_findAhead : Cond.instanceMethod yX12_findAhead ∈ TW := (TWt 1547 (by decide +kernel) (by decide +kernel))
theorem se_X12_findAhead : Cond.selects yX12_findAhead.cls yX12_findAhead yX12_findAhead ∈ TW := (TWp 65 (by decide +kernel) (by decide +kernel))
set_option maxRecDepth 16384 in
theorem CKX12_findAhead {rm : Room} (q : ({ frames := 2, cells := 0, slots := 0, locals := 49 } : Room).frames + 1 ≤ rm.frames ∧ 8 + (4 + 11) + ({ frames := 2, cells := 0, slots := 0, locals := 49 } : Room).locals ≤ rm.locals) : CK rm yX12_findAhead cX12_findAhead 4 none ({ frames := 2, cells := 0, slots := 0, locals := 49 } : Room) 0 := ⟨(TWt 1548 rfl (by decide +kernel)), (TWt 7 (by decide +kernel) (by decide +kernel)), ⟨by decide, by decide⟩, by decide +kernel, q.1, q.2⟩
theorem in_X12_ahead : Cond.instanceMethod yX12_ahead ∈ TW := (TWt 1542 (by decide +kernel) (by decide +kernel))
theorem se_X12_ahead : Cond.selects yX12_ahead.cls yX12_ahead yX12_ahead ∈ TW := (TWt 1543 (by decide +kernel) (by decide +kernel))
set_option maxRecDepth 16384 in
theorem CKX12_ahead {rm : Room} (q : ({ frames := 3, cells := 0, slots := 0, locals := 72 } : Room).frames + 1 ≤ rm.frames ∧ 8 + (3 + 11) + ({ frames := 3, cells := 0, slots := 0, locals := 72 } : Room).locals ≤ rm.locals) : CK rm yX12_ahead cX12_ahead 3 (some .int) ({ frames := 3, cells := 0, slots := 0, locals := 72 } : Room) 2 := ⟨(TWt 1544 rfl (by decide +kernel)), (TWt 7 (by decide +kernel) (by decide +kernel)), ⟨by decide, by decide⟩, by decide +kernel, q.1, q.2⟩
theorem in_X12_racing : Cond.instanceMethod yX12_racing ∈ TW := (TWt 1563 (by decide +kernel) (by decide +kernel))
theorem se_X12_racing : Cond.selects yX12_racing.cls yX12_racing yX12_racing ∈ TW := (TWp 68 (by decide +kernel) (by decide +kernel))
set_option maxRecDepth 16384 in
theorem CKX12_racing {rm : Room} (q : ({ frames := 0, cells := 0, slots := 0, locals := 0 } : Room).frames + 1 ≤ rm.frames ∧ 8 + (5 + 11) + ({ frames := 0, cells := 0, slots := 0, locals := 0 } : Room).locals ≤ rm.locals) : CK rm yX12_racing cX12_racing 5 (some .int) ({ frames := 0, cells := 0, slots := 0, locals := 0 } : Room) 2 := ⟨(TWt 1564 rfl (by decide +kernel)), (TWt 7 (by decide +kernel) (by decide +kernel)), ⟨by decide, by decide⟩, by decide +kernel, q.1, q.2⟩
theorem in_X12_race : Cond.instanceMethod yX12_race ∈ TW := (TWt 1558 (by decide +kernel) (by decide +kernel))
theorem se_X12_race : Cond.selects yX12_race.cls yX12_race yX12_race ∈ TW := (TWt 1559 (by decide +kernel) (by decide +kernel))
set_option maxRecDepth 16384 in
theorem CKX12_race {rm : Room} (q : ({ frames := 3, cells := 0, slots := 0, locals := 72 } : Room).frames + 1 ≤ rm.frames ∧ 8 + (7 + 11) + ({ frames := 3, cells := 0, slots := 0, locals := 72 } : Room).locals ≤ rm.locals) : CK rm yX12_race cX12_race 7 (some .int) ({ frames := 3, cells := 0, slots := 0, locals := 72 } : Room) 2 := ⟨(TWt 1560 rfl (by decide +kernel)), (TWt 7 (by decide +kernel) (by decide +kernel)), ⟨by decide, by decide⟩, by decide +kernel, q.1, q.2⟩
theorem in_X12_differ : Cond.instanceMethod yX12_differ ∈ TW := (TWt 1566 (by decide +kernel) (by decide +kernel))
theorem se_X12_differ : Cond.selects yX12_differ.cls yX12_differ yX12_differ ∈ TW := (TWt 1567 (by decide +kernel) (by decide +kernel))
set_option maxRecDepth 16384 in
theorem CKX12_differ {rm : Room} (q : ({ frames := 1, cells := 0, slots := 0, locals := 25 } : Room).frames + 1 ≤ rm.frames ∧ 8 + (5 + 11) + ({ frames := 1, cells := 0, slots := 0, locals := 25 } : Room).locals ≤ rm.locals) : CK rm yX12_differ cX12_differ 5 (some .int) ({ frames := 1, cells := 0, slots := 0, locals := 25 } : Room) 2 := ⟨(TWt 1568 rfl (by decide +kernel)), (TWt 7 (by decide +kernel) (by decide +kernel)), ⟨by decide, by decide⟩, by decide +kernel, q.1, q.2⟩
theorem in_X12_tryRun : Cond.instanceMethod yX12_tryRun ∈ TW := (TWt 1575 (by decide +kernel) (by decide +kernel))
theorem se_X12_tryRun : Cond.selects yX12_tryRun.cls yX12_tryRun yX12_tryRun ∈ TW := (TWp 69 (by decide +kernel) (by decide +kernel))
set_option maxRecDepth 16384 in
theorem CKX12_tryRun {rm : Room} (q : ({ frames := 4, cells := 0, slots := 0, locals := 100 } : Room).frames + 1 ≤ rm.frames ∧ 8 + (3 + 11) + ({ frames := 4, cells := 0, slots := 0, locals := 100 } : Room).locals ≤ rm.locals) : CK rm yX12_tryRun cX12_tryRun 3 (some .boolean) ({ frames := 4, cells := 0, slots := 0, locals := 100 } : Room) 0 := ⟨(TWt 1576 rfl (by decide +kernel)), (TWt 7 (by decide +kernel) (by decide +kernel)), ⟨by decide, by decide⟩, by decide +kernel, q.1, q.2⟩
theorem in_X12_isOver : Cond.instanceMethod yX12_isOver ∈ TW := (TWt 1579 (by decide +kernel) (by decide +kernel))
theorem se_X12_isOver : Cond.selects yX12_isOver.cls yX12_isOver yX12_isOver ∈ TW := (TWp 70 (by decide +kernel) (by decide +kernel))
set_option maxRecDepth 16384 in
theorem CKX12_isOver {rm : Room} (q : ({ frames := 0, cells := 0, slots := 0, locals := 0 } : Room).frames + 1 ≤ rm.frames ∧ 8 + (2 + 11) + ({ frames := 0, cells := 0, slots := 0, locals := 0 } : Room).locals ≤ rm.locals) : CK rm yX12_isOver cX12_isOver 2 (some .boolean) ({ frames := 0, cells := 0, slots := 0, locals := 0 } : Room) 0 := ⟨(TWt 1580 rfl (by decide +kernel)), (TWt 7 (by decide +kernel) (by decide +kernel)), ⟨by decide, by decide⟩, by decide +kernel, q.1, q.2⟩
theorem in_X12_tryLast : Cond.instanceMethod yX12_tryLast ∈ TW := (TWt 1583 (by decide +kernel) (by decide +kernel))
theorem se_X12_tryLast : Cond.selects yX12_tryLast.cls yX12_tryLast yX12_tryLast ∈ TW := (TWp 71 (by decide +kernel) (by decide +kernel))
set_option maxRecDepth 16384 in
theorem CKX12_tryLast {rm : Room} (q : ({ frames := 5, cells := 0, slots := 0, locals := 122 } : Room).frames + 1 ≤ rm.frames ∧ 8 + (6 + 11) + ({ frames := 5, cells := 0, slots := 0, locals := 122 } : Room).locals ≤ rm.locals) : CK rm yX12_tryLast cX12_tryLast 6 (some .boolean) ({ frames := 5, cells := 0, slots := 0, locals := 122 } : Room) 3 := ⟨(TWt 1584 rfl (by decide +kernel)), (TWt 7 (by decide +kernel) (by decide +kernel)), ⟨by decide, by decide⟩, by decide +kernel, q.1, q.2⟩
theorem in_X12_tryBoth : Cond.instanceMethod yX12_tryBoth ∈ TW := (TWt 1587 (by decide +kernel) (by decide +kernel))
theorem se_X12_tryBoth : Cond.selects yX12_tryBoth.cls yX12_tryBoth yX12_tryBoth ∈ TW := (TWp 72 (by decide +kernel) (by decide +kernel))
set_option maxRecDepth 16384 in
theorem CKX12_tryBoth {rm : Room} (q : ({ frames := 6, cells := 0, slots := 0, locals := 147 } : Room).frames + 1 ≤ rm.frames ∧ 8 + (5 + 11) + ({ frames := 6, cells := 0, slots := 0, locals := 147 } : Room).locals ≤ rm.locals) : CK rm yX12_tryBoth cX12_tryBoth 5 (some .boolean) ({ frames := 6, cells := 0, slots := 0, locals := 147 } : Room) 1 := ⟨(TWt 1588 rfl (by decide +kernel)), (TWt 7 (by decide +kernel) (by decide +kernel)), ⟨by decide, by decide⟩, by decide +kernel, q.1, q.2⟩
theorem in_X12_find : Cond.instanceMethod yX12_find ∈ TW := (TWt 1570 (by decide +kernel) (by decide +kernel))
theorem se_X12_find : Cond.selects yX12_find.cls yX12_find yX12_find ∈ TW := (TWt 1571 (by decide +kernel) (by decide +kernel))
set_option maxRecDepth 16384 in
theorem CKX12_find {rm : Room} (q : ({ frames := 7, cells := 0, slots := 0, locals := 171 } : Room).frames + 1 ≤ rm.frames ∧ 8 + (6 + 11) + ({ frames := 7, cells := 0, slots := 0, locals := 171 } : Room).locals ≤ rm.locals) : CK rm yX12_find cX12_find 6 (some .int) ({ frames := 7, cells := 0, slots := 0, locals := 171 } : Room) 2 := ⟨(TWt 1572 rfl (by decide +kernel)), (TWt 7 (by decide +kernel) (by decide +kernel)), ⟨by decide, by decide⟩, by decide +kernel, q.1, q.2⟩
theorem in_X12_found : Cond.instanceMethod yX12_found ∈ TW := (TWt 1590 (by decide +kernel) (by decide +kernel))
theorem se_X12_found : Cond.selects yX12_found.cls yX12_found yX12_found ∈ TW := (TWt 1591 (by decide +kernel) (by decide +kernel))
set_option maxRecDepth 16384 in
theorem CKX12_found {rm : Room} (q : ({ frames := 1, cells := 0, slots := 0, locals := 25 } : Room).frames + 1 ≤ rm.frames ∧ 8 + (3 + 11) + ({ frames := 1, cells := 0, slots := 0, locals := 25 } : Room).locals ≤ rm.locals) : CK rm yX12_found cX12_found 3 (some .int) ({ frames := 1, cells := 0, slots := 0, locals := 25 } : Room) 1 := ⟨(TWt 1592 rfl (by decide +kernel)), (TWt 7 (by decide +kernel) (by decide +kernel)), ⟨by decide, by decide⟩, by decide +kernel, q.1, q.2⟩
theorem st_X12_isShelf : Cond.static yX12_isShelf ∈ TW := (TWt 1599 (by decide +kernel) (by decide +kernel))
set_option maxRecDepth 16384 in
theorem CKX12_isShelf {rm : Room} (q : ({ frames := 0, cells := 0, slots := 0, locals := 0 } : Room).frames + 1 ≤ rm.frames ∧ 8 + (1 + 11) + ({ frames := 0, cells := 0, slots := 0, locals := 0 } : Room).locals ≤ rm.locals) : CK rm yX12_isShelf cX12_isShelf 1 (some .boolean) ({ frames := 0, cells := 0, slots := 0, locals := 0 } : Room) 1 := ⟨(TWt 1600 rfl (by decide +kernel)), (TWt 7 (by decide +kernel) (by decide +kernel)), ⟨by decide, by decide⟩, by decide +kernel, q.1, q.2⟩
theorem in_X12_keep_ : Cond.instanceMethod yX12_keep_ ∈ TW := (TWt 1595 (by decide +kernel) (by decide +kernel))
theorem se_X12_keep_ : Cond.selects yX12_keep_.cls yX12_keep_ yX12_keep_ ∈ TW := (TWt 1596 (by decide +kernel) (by decide +kernel))
set_option maxRecDepth 16384 in
theorem CKX12_keep_ {rm : Room} (q : ({ frames := 1, cells := 0, slots := 0, locals := 25 } : Room).frames + 1 ≤ rm.frames ∧ 8 + (6 + 11) + ({ frames := 1, cells := 0, slots := 0, locals := 25 } : Room).locals ≤ rm.locals) : CK rm yX12_keep_ cX12_keep_ 6 (some .int) ({ frames := 1, cells := 0, slots := 0, locals := 25 } : Room) 3 := ⟨(TWt 1597 rfl (by decide +kernel)), (TWt 7 (by decide +kernel) (by decide +kernel)), ⟨by decide, by decide⟩, by decide +kernel, q.1, q.2⟩
theorem in_X12_make : Cond.instanceMethod yX12_make ∈ TW := (TWt 1602 (by decide +kernel) (by decide +kernel))
theorem se_X12_make : Cond.selects yX12_make.cls yX12_make yX12_make ∈ TW := (TWt 1603 (by decide +kernel) (by decide +kernel))
set_option maxRecDepth 16384 in
theorem CKX12_make {rm : Room} (q : ({ frames := 1, cells := 0, slots := 0, locals := 25 } : Room).frames + 1 ≤ rm.frames ∧ 8 + (5 + 11) + ({ frames := 1, cells := 0, slots := 0, locals := 25 } : Room).locals ≤ rm.locals) : CK rm yX12_make cX12_make 5 (some .int) ({ frames := 1, cells := 0, slots := 0, locals := 25 } : Room) 3 := ⟨(TWt 1604 rfl (by decide +kernel)), (TWt 7 (by decide +kernel) (by decide +kernel)), ⟨by decide, by decide⟩, by decide +kernel, q.1, q.2⟩
theorem in_X12_element : Cond.instanceMethod yX12_element ∈ TW := (TWt 1606 (by decide +kernel) (by decide +kernel))
theorem se_X12_element : Cond.selects yX12_element.cls yX12_element yX12_element ∈ TW := (TWt 1607 (by decide +kernel) (by decide +kernel))
set_option maxRecDepth 16384 in
theorem CKX12_element {rm : Room} (q : ({ frames := 1, cells := 0, slots := 0, locals := 25 } : Room).frames + 1 ≤ rm.frames ∧ 8 + (4 + 11) + ({ frames := 1, cells := 0, slots := 0, locals := 25 } : Room).locals ≤ rm.locals) : CK rm yX12_element cX12_element 4 (some .int) ({ frames := 1, cells := 0, slots := 0, locals := 25 } : Room) 2 := ⟨(TWt 1608 rfl (by decide +kernel)), (TWt 7 (by decide +kernel) (by decide +kernel)), ⟨by decide, by decide⟩, by decide +kernel, q.1, q.2⟩
theorem in_X12_hasPlaces : Cond.instanceMethod yX12_hasPlaces ∈ TW := (TWt 1615 (by decide +kernel) (by decide +kernel))
theorem se_X12_hasPlaces : Cond.selects yX12_hasPlaces.cls yX12_hasPlaces yX12_hasPlaces ∈ TW := (TWp 73 (by decide +kernel) (by decide +kernel))
set_option maxRecDepth 16384 in
theorem CKX12_hasPlaces {rm : Room} (q : ({ frames := 0, cells := 0, slots := 0, locals := 0 } : Room).frames + 1 ≤ rm.frames ∧ 8 + (4 + 11) + ({ frames := 0, cells := 0, slots := 0, locals := 0 } : Room).locals ≤ rm.locals) : CK rm yX12_hasPlaces cX12_hasPlaces 4 (some .boolean) ({ frames := 0, cells := 0, slots := 0, locals := 0 } : Room) 3 := ⟨(TWt 1616 rfl (by decide +kernel)), (TWt 7 (by decide +kernel) (by decide +kernel)), ⟨by decide, by decide⟩, by decide +kernel, q.1, q.2⟩
theorem in_X12_copy : Cond.instanceMethod yX12_copy ∈ TW := (TWt 1610 (by decide +kernel) (by decide +kernel))
theorem se_X12_copy : Cond.selects yX12_copy.cls yX12_copy yX12_copy ∈ TW := (TWt 1611 (by decide +kernel) (by decide +kernel))
set_option maxRecDepth 16384 in
theorem CKX12_copy {rm : Room} (q : ({ frames := 1, cells := 0, slots := 0, locals := 23 } : Room).frames + 1 ≤ rm.frames ∧ 8 + (7 + 11) + ({ frames := 1, cells := 0, slots := 0, locals := 23 } : Room).locals ≤ rm.locals) : CK rm yX12_copy cX12_copy 7 (some .int) ({ frames := 1, cells := 0, slots := 0, locals := 23 } : Room) 5 := ⟨(TWt 1612 rfl (by decide +kernel)), (TWt 7 (by decide +kernel) (by decide +kernel)), ⟨by decide, by decide⟩, by decide +kernel, q.1, q.2⟩
theorem in_X12_denied : Cond.instanceMethod yX12_denied ∈ TW := (TWt 1623 (by decide +kernel) (by decide +kernel))
theorem se_X12_denied : Cond.selects yX12_denied.cls yX12_denied yX12_denied ∈ TW := (TWp 74 (by decide +kernel) (by decide +kernel))
set_option maxRecDepth 16384 in
theorem CKX12_denied {rm : Room} (q : ({ frames := 1, cells := 0, slots := 0, locals := 20 } : Room).frames + 1 ≤ rm.frames ∧ 8 + (2 + 11) + ({ frames := 1, cells := 0, slots := 0, locals := 20 } : Room).locals ≤ rm.locals) : CK rm yX12_denied cX12_denied 2 (some .int) ({ frames := 1, cells := 0, slots := 0, locals := 20 } : Room) 1 := ⟨(TWt 1624 rfl (by decide +kernel)), (TWt 7 (by decide +kernel) (by decide +kernel)), ⟨by decide, by decide⟩, by decide +kernel, q.1, q.2⟩
theorem in_X12_weight : Cond.instanceMethod yX12_weight ∈ TW := (TWt 1618 (by decide +kernel) (by decide +kernel))
theorem se_X12_weight : Cond.selects yX12_weight.cls yX12_weight yX12_weight ∈ TW := (TWt 1619 (by decide +kernel) (by decide +kernel))
set_option maxRecDepth 16384 in
theorem CKX12_weight {rm : Room} (q : ({ frames := 2, cells := 0, slots := 0, locals := 41 } : Room).frames + 1 ≤ rm.frames ∧ 8 + (4 + 11) + ({ frames := 2, cells := 0, slots := 0, locals := 41 } : Room).locals ≤ rm.locals) : CK rm yX12_weight cX12_weight 4 (some .int) ({ frames := 2, cells := 0, slots := 0, locals := 41 } : Room) 1 := ⟨(TWt 1620 rfl (by decide +kernel)), (TWt 7 (by decide +kernel) (by decide +kernel)), ⟨by decide, by decide⟩, by decide +kernel, q.1, q.2⟩
theorem in_X12_toss : Cond.instanceMethod yX12_toss ∈ TW := (TWt 1626 (by decide +kernel) (by decide +kernel))
theorem se_X12_toss : Cond.selects yX12_toss.cls yX12_toss yX12_toss ∈ TW := (TWt 1627 (by decide +kernel) (by decide +kernel))
set_option maxRecDepth 16384 in
theorem CKX12_toss {rm : Room} (q : ({ frames := 2, cells := 0, slots := 0, locals := 41 } : Room).frames + 1 ≤ rm.frames ∧ 8 + (3 + 11) + ({ frames := 2, cells := 0, slots := 0, locals := 41 } : Room).locals ≤ rm.locals) : CK rm yX12_toss cX12_toss 3 (some .int) ({ frames := 2, cells := 0, slots := 0, locals := 41 } : Room) 1 := ⟨(TWt 1628 rfl (by decide +kernel)), (TWt 7 (by decide +kernel) (by decide +kernel)), ⟨by decide, by decide⟩, by decide +kernel, q.1, q.2⟩
