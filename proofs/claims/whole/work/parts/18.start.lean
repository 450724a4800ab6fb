/-! the law's start: made by wip/whole/tools/p18.py -/
def flL : List Jvm.Cond := flatC (Jvm.Cond.and given_1 narrow_1)
def tmS (i : Nat) : Term := .string (stL.getD i ("", 0, "")).1 (stL.getD i ("", 0, "")).2.1
def psL : List (Nat × Nat × Nat × Nat × List Nat) := [(16, 17, 18, 19, [20, 21, 22, 23, 24, 25, 26, 27, 28, 29, 30, 31, 32, 33, 34, 35, 36, 37, 38, 39, 40, 41, 42, 43, 44, 45]), (46, 47, 48, 49, [50, 51, 52, 53, 54, 55, 56, 57, 58, 59]), (61, 62, 63, 64, [65, 66, 67, 68, 69, 70, 71, 72, 73, 74, 75, 76, 77, 78, 79, 80, 81, 82, 83, 84, 85, 86, 87, 88, 89, 90, 91, 92, 93, 94, 95, 96, 97, 98, 99, 100, 101, 102, 103, 104, 105, 106, 107, 108, 109, 110, 111, 112, 113, 114, 115, 116, 117, 118, 119, 120, 121, 122, 123, 124, 125, 126, 127, 128, 129, 130]), (133, 134, 135, 136, [137, 138, 139, 140, 141, 142, 143, 144, 145, 146, 147, 148, 149, 150, 151, 152, 153, 154, 155, 156, 157, 158, 159, 160, 161, 162, 163, 164, 165, 166, 167, 168, 169, 170, 171, 172, 173, 174, 175, 176, 177, 178, 179, 180, 181, 182, 183, 184, 185, 186, 187, 188, 189]), (193, 194, 195, 196, [197, 198, 199, 200]), (205, 206, 207, 208, [209, 210, 211, 212]), (218, 219, 220, 221, [222, 223, 224]), (231, 232, 233, 234, [235, 236]), (244, 245, 246, 247, [248, 249, 250]), (259, 260, 261, 262, [263, 264, 265, 266, 267]), (277, 278, 279, 280, [281, 282, 283, 284]), (295, 296, 297, 298, [299, 300]), (312, 313, 314, 315, [316, 317, 318]), (331, 332, 333, 334, [335, 336, 337]), (351, 352, 353, 354, [355, 356, 357]), (372, 373, 374, 375, [376, 377, 378]), (394, 395, 396, 397, [398, 399, 400, 401, 402]), (419, 420, 421, 422, [423, 424, 425, 426]), (444, 445, 446, 447, [448, 449, 450, 451, 452]), (471, 472, 473, 474, [475, 476, 477]), (497, 498, 499, 500, [501, 502, 503]), (524, 525, 526, 527, [528, 529, 530, 531]), (553, 554, 555, 556, [557, 558, 559]), (582, 583, 584, 585, [586, 587, 588, 589]), (613, 614, 615, 616, [617, 618, 619, 620])]
def ps (i : Nat) : Nat × Nat × Nat × Nat × List Nat := psL.getD i (0, 0, 0, 0, [])
def pqL : List (List Nat) := [[9999, 60, 131, 190, 201, 213, 225, 237, 251, 268, 285, 301, 319, 338, 358, 379, 403, 427, 453, 478, 504, 532, 560, 590, 621],
  [9999, 9999, 132, 191, 202, 214, 226, 238, 252, 269, 286, 302, 320, 339, 359, 380, 404, 428, 454, 479, 505, 533, 561, 591, 622],
  [9999, 9999, 9999, 192, 203, 215, 227, 239, 253, 270, 287, 303, 321, 340, 360, 381, 405, 429, 455, 480, 506, 534, 562, 592, 623],
  [9999, 9999, 9999, 9999, 204, 216, 228, 240, 254, 271, 288, 304, 322, 341, 361, 382, 406, 430, 456, 481, 507, 535, 563, 593, 624],
  [9999, 9999, 9999, 9999, 9999, 217, 229, 241, 255, 272, 289, 305, 323, 342, 362, 383, 407, 431, 457, 482, 508, 536, 564, 594, 625],
  [9999, 9999, 9999, 9999, 9999, 9999, 230, 242, 256, 273, 290, 306, 324, 343, 363, 384, 408, 432, 458, 483, 509, 537, 565, 595, 626],
  [9999, 9999, 9999, 9999, 9999, 9999, 9999, 243, 257, 274, 291, 307, 325, 344, 364, 385, 409, 433, 459, 484, 510, 538, 566, 596, 627],
  [9999, 9999, 9999, 9999, 9999, 9999, 9999, 9999, 258, 275, 292, 308, 326, 345, 365, 386, 410, 434, 460, 485, 511, 539, 567, 597, 628],
  [9999, 9999, 9999, 9999, 9999, 9999, 9999, 9999, 9999, 276, 293, 309, 327, 346, 366, 387, 411, 435, 461, 486, 512, 540, 568, 598, 629],
  [9999, 9999, 9999, 9999, 9999, 9999, 9999, 9999, 9999, 9999, 294, 310, 328, 347, 367, 388, 412, 436, 462, 487, 513, 541, 569, 599, 630],
  [9999, 9999, 9999, 9999, 9999, 9999, 9999, 9999, 9999, 9999, 9999, 311, 329, 348, 368, 389, 413, 437, 463, 488, 514, 542, 570, 600, 631],
  [9999, 9999, 9999, 9999, 9999, 9999, 9999, 9999, 9999, 9999, 9999, 9999, 330, 349, 369, 390, 414, 438, 464, 489, 515, 543, 571, 601, 632],
  [9999, 9999, 9999, 9999, 9999, 9999, 9999, 9999, 9999, 9999, 9999, 9999, 9999, 350, 370, 391, 415, 439, 465, 490, 516, 544, 572, 602, 633],
  [9999, 9999, 9999, 9999, 9999, 9999, 9999, 9999, 9999, 9999, 9999, 9999, 9999, 9999, 371, 392, 416, 440, 466, 491, 517, 545, 573, 603, 634],
  [9999, 9999, 9999, 9999, 9999, 9999, 9999, 9999, 9999, 9999, 9999, 9999, 9999, 9999, 9999, 393, 417, 441, 467, 492, 518, 546, 574, 604, 635],
  [9999, 9999, 9999, 9999, 9999, 9999, 9999, 9999, 9999, 9999, 9999, 9999, 9999, 9999, 9999, 9999, 418, 442, 468, 493, 519, 547, 575, 605, 636],
  [9999, 9999, 9999, 9999, 9999, 9999, 9999, 9999, 9999, 9999, 9999, 9999, 9999, 9999, 9999, 9999, 9999, 443, 469, 494, 520, 548, 576, 606, 637],
  [9999, 9999, 9999, 9999, 9999, 9999, 9999, 9999, 9999, 9999, 9999, 9999, 9999, 9999, 9999, 9999, 9999, 9999, 470, 495, 521, 549, 577, 607, 638],
  [9999, 9999, 9999, 9999, 9999, 9999, 9999, 9999, 9999, 9999, 9999, 9999, 9999, 9999, 9999, 9999, 9999, 9999, 9999, 496, 522, 550, 578, 608, 639],
  [9999, 9999, 9999, 9999, 9999, 9999, 9999, 9999, 9999, 9999, 9999, 9999, 9999, 9999, 9999, 9999, 9999, 9999, 9999, 9999, 523, 551, 579, 609, 640],
  [9999, 9999, 9999, 9999, 9999, 9999, 9999, 9999, 9999, 9999, 9999, 9999, 9999, 9999, 9999, 9999, 9999, 9999, 9999, 9999, 9999, 552, 580, 610, 641],
  [9999, 9999, 9999, 9999, 9999, 9999, 9999, 9999, 9999, 9999, 9999, 9999, 9999, 9999, 9999, 9999, 9999, 9999, 9999, 9999, 9999, 9999, 581, 611, 642],
  [9999, 9999, 9999, 9999, 9999, 9999, 9999, 9999, 9999, 9999, 9999, 9999, 9999, 9999, 9999, 9999, 9999, 9999, 9999, 9999, 9999, 9999, 9999, 612, 643],
  [9999, 9999, 9999, 9999, 9999, 9999, 9999, 9999, 9999, 9999, 9999, 9999, 9999, 9999, 9999, 9999, 9999, 9999, 9999, 9999, 9999, 9999, 9999, 9999, 644],
  [9999, 9999, 9999, 9999, 9999, 9999, 9999, 9999, 9999, 9999, 9999, 9999, 9999, 9999, 9999, 9999, 9999, 9999, 9999, 9999, 9999, 9999, 9999, 9999, 9999]]
theorem fl_ck0 : ((List.range 25).all fun i => decide (flL[(ps i).1]? = some (.exactly (tmS i) "java/lang/String")) && decide (flL[(ps i).2.1]? = some (.eq (.field (tmS i) "java/lang/String" "coder" "B") (.int 0))) && decide (flL[(ps i).2.2.1]? = some (.arrayOf (.field (tmS i) "java/lang/String" "value" "[B") .byte)) && decide (flL[(ps i).2.2.2.1]? = some (.eq (.length (.field (tmS i) "java/lang/String" "value" "[B")) (.int (Int32.ofNat (lenL.getD i 0))))) && decide (lenL.getD i 0 < 2 ^ 31)) = true := by decide +kernel
theorem fl_e0 : ((List.range (lenL.getD 0 0)).all fun j => decide (flL[(ps 0).2.2.2.2.getD j 0]? = some (.eq (.elem (.field (tmS 0) "java/lang/String" "value" "[B") (.int (Int32.ofNat j))) (.int ((bytL.getD 0 []).getD j 0))))) = true := by decide +kernel
theorem fl_e1 : ((List.range (lenL.getD 1 0)).all fun j => decide (flL[(ps 1).2.2.2.2.getD j 0]? = some (.eq (.elem (.field (tmS 1) "java/lang/String" "value" "[B") (.int (Int32.ofNat j))) (.int ((bytL.getD 1 []).getD j 0))))) = true := by decide +kernel
theorem fl_e2 : ((List.range (lenL.getD 2 0)).all fun j => decide (flL[(ps 2).2.2.2.2.getD j 0]? = some (.eq (.elem (.field (tmS 2) "java/lang/String" "value" "[B") (.int (Int32.ofNat j))) (.int ((bytL.getD 2 []).getD j 0))))) = true := by decide +kernel
theorem fl_e3 : ((List.range (lenL.getD 3 0)).all fun j => decide (flL[(ps 3).2.2.2.2.getD j 0]? = some (.eq (.elem (.field (tmS 3) "java/lang/String" "value" "[B") (.int (Int32.ofNat j))) (.int ((bytL.getD 3 []).getD j 0))))) = true := by decide +kernel
theorem fl_e4 : ((List.range (lenL.getD 4 0)).all fun j => decide (flL[(ps 4).2.2.2.2.getD j 0]? = some (.eq (.elem (.field (tmS 4) "java/lang/String" "value" "[B") (.int (Int32.ofNat j))) (.int ((bytL.getD 4 []).getD j 0))))) = true := by decide +kernel
theorem fl_e5 : ((List.range (lenL.getD 5 0)).all fun j => decide (flL[(ps 5).2.2.2.2.getD j 0]? = some (.eq (.elem (.field (tmS 5) "java/lang/String" "value" "[B") (.int (Int32.ofNat j))) (.int ((bytL.getD 5 []).getD j 0))))) = true := by decide +kernel
theorem fl_e6 : ((List.range (lenL.getD 6 0)).all fun j => decide (flL[(ps 6).2.2.2.2.getD j 0]? = some (.eq (.elem (.field (tmS 6) "java/lang/String" "value" "[B") (.int (Int32.ofNat j))) (.int ((bytL.getD 6 []).getD j 0))))) = true := by decide +kernel
theorem fl_e7 : ((List.range (lenL.getD 7 0)).all fun j => decide (flL[(ps 7).2.2.2.2.getD j 0]? = some (.eq (.elem (.field (tmS 7) "java/lang/String" "value" "[B") (.int (Int32.ofNat j))) (.int ((bytL.getD 7 []).getD j 0))))) = true := by decide +kernel
theorem fl_e8 : ((List.range (lenL.getD 8 0)).all fun j => decide (flL[(ps 8).2.2.2.2.getD j 0]? = some (.eq (.elem (.field (tmS 8) "java/lang/String" "value" "[B") (.int (Int32.ofNat j))) (.int ((bytL.getD 8 []).getD j 0))))) = true := by decide +kernel
theorem fl_e9 : ((List.range (lenL.getD 9 0)).all fun j => decide (flL[(ps 9).2.2.2.2.getD j 0]? = some (.eq (.elem (.field (tmS 9) "java/lang/String" "value" "[B") (.int (Int32.ofNat j))) (.int ((bytL.getD 9 []).getD j 0))))) = true := by decide +kernel
theorem fl_e10 : ((List.range (lenL.getD 10 0)).all fun j => decide (flL[(ps 10).2.2.2.2.getD j 0]? = some (.eq (.elem (.field (tmS 10) "java/lang/String" "value" "[B") (.int (Int32.ofNat j))) (.int ((bytL.getD 10 []).getD j 0))))) = true := by decide +kernel
theorem fl_e11 : ((List.range (lenL.getD 11 0)).all fun j => decide (flL[(ps 11).2.2.2.2.getD j 0]? = some (.eq (.elem (.field (tmS 11) "java/lang/String" "value" "[B") (.int (Int32.ofNat j))) (.int ((bytL.getD 11 []).getD j 0))))) = true := by decide +kernel
theorem fl_e12 : ((List.range (lenL.getD 12 0)).all fun j => decide (flL[(ps 12).2.2.2.2.getD j 0]? = some (.eq (.elem (.field (tmS 12) "java/lang/String" "value" "[B") (.int (Int32.ofNat j))) (.int ((bytL.getD 12 []).getD j 0))))) = true := by decide +kernel
theorem fl_e13 : ((List.range (lenL.getD 13 0)).all fun j => decide (flL[(ps 13).2.2.2.2.getD j 0]? = some (.eq (.elem (.field (tmS 13) "java/lang/String" "value" "[B") (.int (Int32.ofNat j))) (.int ((bytL.getD 13 []).getD j 0))))) = true := by decide +kernel
theorem fl_e14 : ((List.range (lenL.getD 14 0)).all fun j => decide (flL[(ps 14).2.2.2.2.getD j 0]? = some (.eq (.elem (.field (tmS 14) "java/lang/String" "value" "[B") (.int (Int32.ofNat j))) (.int ((bytL.getD 14 []).getD j 0))))) = true := by decide +kernel
theorem fl_e15 : ((List.range (lenL.getD 15 0)).all fun j => decide (flL[(ps 15).2.2.2.2.getD j 0]? = some (.eq (.elem (.field (tmS 15) "java/lang/String" "value" "[B") (.int (Int32.ofNat j))) (.int ((bytL.getD 15 []).getD j 0))))) = true := by decide +kernel
theorem fl_e16 : ((List.range (lenL.getD 16 0)).all fun j => decide (flL[(ps 16).2.2.2.2.getD j 0]? = some (.eq (.elem (.field (tmS 16) "java/lang/String" "value" "[B") (.int (Int32.ofNat j))) (.int ((bytL.getD 16 []).getD j 0))))) = true := by decide +kernel
theorem fl_e17 : ((List.range (lenL.getD 17 0)).all fun j => decide (flL[(ps 17).2.2.2.2.getD j 0]? = some (.eq (.elem (.field (tmS 17) "java/lang/String" "value" "[B") (.int (Int32.ofNat j))) (.int ((bytL.getD 17 []).getD j 0))))) = true := by decide +kernel
theorem fl_e18 : ((List.range (lenL.getD 18 0)).all fun j => decide (flL[(ps 18).2.2.2.2.getD j 0]? = some (.eq (.elem (.field (tmS 18) "java/lang/String" "value" "[B") (.int (Int32.ofNat j))) (.int ((bytL.getD 18 []).getD j 0))))) = true := by decide +kernel
theorem fl_e19 : ((List.range (lenL.getD 19 0)).all fun j => decide (flL[(ps 19).2.2.2.2.getD j 0]? = some (.eq (.elem (.field (tmS 19) "java/lang/String" "value" "[B") (.int (Int32.ofNat j))) (.int ((bytL.getD 19 []).getD j 0))))) = true := by decide +kernel
theorem fl_e20 : ((List.range (lenL.getD 20 0)).all fun j => decide (flL[(ps 20).2.2.2.2.getD j 0]? = some (.eq (.elem (.field (tmS 20) "java/lang/String" "value" "[B") (.int (Int32.ofNat j))) (.int ((bytL.getD 20 []).getD j 0))))) = true := by decide +kernel
theorem fl_e21 : ((List.range (lenL.getD 21 0)).all fun j => decide (flL[(ps 21).2.2.2.2.getD j 0]? = some (.eq (.elem (.field (tmS 21) "java/lang/String" "value" "[B") (.int (Int32.ofNat j))) (.int ((bytL.getD 21 []).getD j 0))))) = true := by decide +kernel
theorem fl_e22 : ((List.range (lenL.getD 22 0)).all fun j => decide (flL[(ps 22).2.2.2.2.getD j 0]? = some (.eq (.elem (.field (tmS 22) "java/lang/String" "value" "[B") (.int (Int32.ofNat j))) (.int ((bytL.getD 22 []).getD j 0))))) = true := by decide +kernel
theorem fl_e23 : ((List.range (lenL.getD 23 0)).all fun j => decide (flL[(ps 23).2.2.2.2.getD j 0]? = some (.eq (.elem (.field (tmS 23) "java/lang/String" "value" "[B") (.int (Int32.ofNat j))) (.int ((bytL.getD 23 []).getD j 0))))) = true := by decide +kernel
theorem fl_e24 : ((List.range (lenL.getD 24 0)).all fun j => decide (flL[(ps 24).2.2.2.2.getD j 0]? = some (.eq (.elem (.field (tmS 24) "java/lang/String" "value" "[B") (.int (Int32.ofNat j))) (.int ((bytL.getD 24 []).getD j 0))))) = true := by decide +kernel
theorem fl_e {i : Nat} (h : i < 25) : ((List.range (lenL.getD i 0)).all fun j => decide (flL[(ps i).2.2.2.2.getD j 0]? = some (.eq (.elem (.field (tmS i) "java/lang/String" "value" "[B") (.int (Int32.ofNat j))) (.int ((bytL.getD i []).getD j 0))))) = true := by
  match i, h with
  | 0, _ => exact fl_e0
  | 1, _ => exact fl_e1
  | 2, _ => exact fl_e2
  | 3, _ => exact fl_e3
  | 4, _ => exact fl_e4
  | 5, _ => exact fl_e5
  | 6, _ => exact fl_e6
  | 7, _ => exact fl_e7
  | 8, _ => exact fl_e8
  | 9, _ => exact fl_e9
  | 10, _ => exact fl_e10
  | 11, _ => exact fl_e11
  | 12, _ => exact fl_e12
  | 13, _ => exact fl_e13
  | 14, _ => exact fl_e14
  | 15, _ => exact fl_e15
  | 16, _ => exact fl_e16
  | 17, _ => exact fl_e17
  | 18, _ => exact fl_e18
  | 19, _ => exact fl_e19
  | 20, _ => exact fl_e20
  | 21, _ => exact fl_e21
  | 22, _ => exact fl_e22
  | 23, _ => exact fl_e23
  | 24, _ => exact fl_e24
  | n + 25, h => exact absurd h (by omega)
theorem fl_n0 : ((List.range 25).all fun j => (j == 0) || decide (flL[(pqL.getD 0 []).getD j 0]? = some (.not (.eq (tmS 0) (tmS j)))) || decide (flL[(pqL.getD j []).getD 0 0]? = some (.not (.eq (tmS j) (tmS 0))))) = true := by decide +kernel
theorem fl_n1 : ((List.range 25).all fun j => (j == 1) || decide (flL[(pqL.getD 1 []).getD j 0]? = some (.not (.eq (tmS 1) (tmS j)))) || decide (flL[(pqL.getD j []).getD 1 0]? = some (.not (.eq (tmS j) (tmS 1))))) = true := by decide +kernel
theorem fl_n2 : ((List.range 25).all fun j => (j == 2) || decide (flL[(pqL.getD 2 []).getD j 0]? = some (.not (.eq (tmS 2) (tmS j)))) || decide (flL[(pqL.getD j []).getD 2 0]? = some (.not (.eq (tmS j) (tmS 2))))) = true := by decide +kernel
theorem fl_n3 : ((List.range 25).all fun j => (j == 3) || decide (flL[(pqL.getD 3 []).getD j 0]? = some (.not (.eq (tmS 3) (tmS j)))) || decide (flL[(pqL.getD j []).getD 3 0]? = some (.not (.eq (tmS j) (tmS 3))))) = true := by decide +kernel
theorem fl_n4 : ((List.range 25).all fun j => (j == 4) || decide (flL[(pqL.getD 4 []).getD j 0]? = some (.not (.eq (tmS 4) (tmS j)))) || decide (flL[(pqL.getD j []).getD 4 0]? = some (.not (.eq (tmS j) (tmS 4))))) = true := by decide +kernel
theorem fl_n5 : ((List.range 25).all fun j => (j == 5) || decide (flL[(pqL.getD 5 []).getD j 0]? = some (.not (.eq (tmS 5) (tmS j)))) || decide (flL[(pqL.getD j []).getD 5 0]? = some (.not (.eq (tmS j) (tmS 5))))) = true := by decide +kernel
theorem fl_n6 : ((List.range 25).all fun j => (j == 6) || decide (flL[(pqL.getD 6 []).getD j 0]? = some (.not (.eq (tmS 6) (tmS j)))) || decide (flL[(pqL.getD j []).getD 6 0]? = some (.not (.eq (tmS j) (tmS 6))))) = true := by decide +kernel
theorem fl_n7 : ((List.range 25).all fun j => (j == 7) || decide (flL[(pqL.getD 7 []).getD j 0]? = some (.not (.eq (tmS 7) (tmS j)))) || decide (flL[(pqL.getD j []).getD 7 0]? = some (.not (.eq (tmS j) (tmS 7))))) = true := by decide +kernel
theorem fl_n8 : ((List.range 25).all fun j => (j == 8) || decide (flL[(pqL.getD 8 []).getD j 0]? = some (.not (.eq (tmS 8) (tmS j)))) || decide (flL[(pqL.getD j []).getD 8 0]? = some (.not (.eq (tmS j) (tmS 8))))) = true := by decide +kernel
theorem fl_n9 : ((List.range 25).all fun j => (j == 9) || decide (flL[(pqL.getD 9 []).getD j 0]? = some (.not (.eq (tmS 9) (tmS j)))) || decide (flL[(pqL.getD j []).getD 9 0]? = some (.not (.eq (tmS j) (tmS 9))))) = true := by decide +kernel
theorem fl_n10 : ((List.range 25).all fun j => (j == 10) || decide (flL[(pqL.getD 10 []).getD j 0]? = some (.not (.eq (tmS 10) (tmS j)))) || decide (flL[(pqL.getD j []).getD 10 0]? = some (.not (.eq (tmS j) (tmS 10))))) = true := by decide +kernel
theorem fl_n11 : ((List.range 25).all fun j => (j == 11) || decide (flL[(pqL.getD 11 []).getD j 0]? = some (.not (.eq (tmS 11) (tmS j)))) || decide (flL[(pqL.getD j []).getD 11 0]? = some (.not (.eq (tmS j) (tmS 11))))) = true := by decide +kernel
theorem fl_n12 : ((List.range 25).all fun j => (j == 12) || decide (flL[(pqL.getD 12 []).getD j 0]? = some (.not (.eq (tmS 12) (tmS j)))) || decide (flL[(pqL.getD j []).getD 12 0]? = some (.not (.eq (tmS j) (tmS 12))))) = true := by decide +kernel
theorem fl_n13 : ((List.range 25).all fun j => (j == 13) || decide (flL[(pqL.getD 13 []).getD j 0]? = some (.not (.eq (tmS 13) (tmS j)))) || decide (flL[(pqL.getD j []).getD 13 0]? = some (.not (.eq (tmS j) (tmS 13))))) = true := by decide +kernel
theorem fl_n14 : ((List.range 25).all fun j => (j == 14) || decide (flL[(pqL.getD 14 []).getD j 0]? = some (.not (.eq (tmS 14) (tmS j)))) || decide (flL[(pqL.getD j []).getD 14 0]? = some (.not (.eq (tmS j) (tmS 14))))) = true := by decide +kernel
theorem fl_n15 : ((List.range 25).all fun j => (j == 15) || decide (flL[(pqL.getD 15 []).getD j 0]? = some (.not (.eq (tmS 15) (tmS j)))) || decide (flL[(pqL.getD j []).getD 15 0]? = some (.not (.eq (tmS j) (tmS 15))))) = true := by decide +kernel
theorem fl_n16 : ((List.range 25).all fun j => (j == 16) || decide (flL[(pqL.getD 16 []).getD j 0]? = some (.not (.eq (tmS 16) (tmS j)))) || decide (flL[(pqL.getD j []).getD 16 0]? = some (.not (.eq (tmS j) (tmS 16))))) = true := by decide +kernel
theorem fl_n17 : ((List.range 25).all fun j => (j == 17) || decide (flL[(pqL.getD 17 []).getD j 0]? = some (.not (.eq (tmS 17) (tmS j)))) || decide (flL[(pqL.getD j []).getD 17 0]? = some (.not (.eq (tmS j) (tmS 17))))) = true := by decide +kernel
theorem fl_n18 : ((List.range 25).all fun j => (j == 18) || decide (flL[(pqL.getD 18 []).getD j 0]? = some (.not (.eq (tmS 18) (tmS j)))) || decide (flL[(pqL.getD j []).getD 18 0]? = some (.not (.eq (tmS j) (tmS 18))))) = true := by decide +kernel
theorem fl_n19 : ((List.range 25).all fun j => (j == 19) || decide (flL[(pqL.getD 19 []).getD j 0]? = some (.not (.eq (tmS 19) (tmS j)))) || decide (flL[(pqL.getD j []).getD 19 0]? = some (.not (.eq (tmS j) (tmS 19))))) = true := by decide +kernel
theorem fl_n20 : ((List.range 25).all fun j => (j == 20) || decide (flL[(pqL.getD 20 []).getD j 0]? = some (.not (.eq (tmS 20) (tmS j)))) || decide (flL[(pqL.getD j []).getD 20 0]? = some (.not (.eq (tmS j) (tmS 20))))) = true := by decide +kernel
theorem fl_n21 : ((List.range 25).all fun j => (j == 21) || decide (flL[(pqL.getD 21 []).getD j 0]? = some (.not (.eq (tmS 21) (tmS j)))) || decide (flL[(pqL.getD j []).getD 21 0]? = some (.not (.eq (tmS j) (tmS 21))))) = true := by decide +kernel
theorem fl_n22 : ((List.range 25).all fun j => (j == 22) || decide (flL[(pqL.getD 22 []).getD j 0]? = some (.not (.eq (tmS 22) (tmS j)))) || decide (flL[(pqL.getD j []).getD 22 0]? = some (.not (.eq (tmS j) (tmS 22))))) = true := by decide +kernel
theorem fl_n23 : ((List.range 25).all fun j => (j == 23) || decide (flL[(pqL.getD 23 []).getD j 0]? = some (.not (.eq (tmS 23) (tmS j)))) || decide (flL[(pqL.getD j []).getD 23 0]? = some (.not (.eq (tmS j) (tmS 23))))) = true := by decide +kernel
theorem fl_n24 : ((List.range 25).all fun j => (j == 24) || decide (flL[(pqL.getD 24 []).getD j 0]? = some (.not (.eq (tmS 24) (tmS j)))) || decide (flL[(pqL.getD j []).getD 24 0]? = some (.not (.eq (tmS j) (tmS 24))))) = true := by decide +kernel
theorem fl_n {i : Nat} (h : i < 25) : ((List.range 25).all fun j => (j == i) || decide (flL[(pqL.getD i []).getD j 0]? = some (.not (.eq (tmS i) (tmS j)))) || decide (flL[(pqL.getD j []).getD i 0]? = some (.not (.eq (tmS j) (tmS i))))) = true := by
  match i, h with
  | 0, _ => exact fl_n0
  | 1, _ => exact fl_n1
  | 2, _ => exact fl_n2
  | 3, _ => exact fl_n3
  | 4, _ => exact fl_n4
  | 5, _ => exact fl_n5
  | 6, _ => exact fl_n6
  | 7, _ => exact fl_n7
  | 8, _ => exact fl_n8
  | 9, _ => exact fl_n9
  | 10, _ => exact fl_n10
  | 11, _ => exact fl_n11
  | 12, _ => exact fl_n12
  | 13, _ => exact fl_n13
  | 14, _ => exact fl_n14
  | 15, _ => exact fl_n15
  | 16, _ => exact fl_n16
  | 17, _ => exact fl_n17
  | 18, _ => exact fl_n18
  | 19, _ => exact fl_n19
  | 20, _ => exact fl_n20
  | 21, _ => exact fl_n21
  | 22, _ => exact fl_n22
  | 23, _ => exact fl_n23
  | 24, _ => exact fl_n24
  | n + 25, h => exact absurd h (by omega)
abbrev stS : Term := .static "VotedRiver" "SETTING_MOST" "[I"
theorem fl_s : (decide (flL[5]? = some (.arrayOf stS .int)) && decide (flL[6]? = some (.eq (.length stS) (.int (Int32.ofNat 4)))) && ((List.range 4).all fun j => decide (flL[[7, 8, 9, 10].getD j 0]? = some (.eq (.elem stS (.int (Int32.ofNat j))) (.int (setv j))))) && decide (flL[11]? = some (.eq (.static "java/lang/String" "COMPACT_STRINGS" "Z") (.int 1))) && decide (flL[12]? = some (.isRef (.static "jdk/internal/util/Preconditions" "SIOOBE_FORMATTER" "Ljava/util/function/BiFunction;")))) = true := by decide +kernel
/-! THE CLAIM OUT OF ONE WALK OF THE LAW'S BODY. Your part is whole_start (and what it stands on); all else here is the same for every law, but numbers. -/
def R_law : String := "VotedRiverLaw"
def lw_P (b : Addr) (xs : List Int32) (args : Array Value) (s : State) : Prop := args = #[.ref b] ∧ s.IntsAt b xs ∧ xs.length ≤ 3072 ∧ (Jvm.Cond.and given_1 narrow_1).before args s = true
def lw_Q (_ : Array Value) (s : State) (o : Outcome) (t : State) : Prop := o = .returned (some (.int 1)) ∧ Framed s o t [] 600000 7302250
def lw_Z (below : List Frame) (a : Array Value) (s : State) : State → Prop := fun t => ∃ o, t.status = .running ∧ Ended t below o ∧ lw_Q a s o t
/-- the law's own end, with 1 on the stack, nothing written that was there before, its room as the claim has it -/
theorem lw_ret {p : Program} {l : Launch} {e : Env} {s : State} {m : MethodId} {below : List Frame} {meth : Method} {c : Code} {b : Nat} (hx : p.tables.exec = Jvm.exec) (hb : c.code = code) (hr : meth.sig.returnType = ret) (hlocks : meth.locks = false) {pc : Nat} {H : Heap} {ls : Array Slot} (hdg : decode code pc = .ok (.ireturn, 1)) : W p l e room_1 s m #[Value.ref b] below meth c H [] 600000 7302250 (lw_Z below #[Value.ref b] s) (F0 m pc ls [.int 1]) := by
  intro T hT X
  obtain ⟨fs, hret, hrun, hended, hW, hframe⟩ := X.leave (v := some (.int 1)) (hlocks := hlocks) (fun h => by rw [hr] at h; cases h)
  have hmeth' : T.vm.method? m = some meth := X.method'
  refine ⟨T.setFrames fs, ?_, .returned (some (.int 1)), hrun, hended, rfl, ⟨_, rfl⟩, hW, hframe⟩
  jvm_step X.here [X.here.top, hx, hb, hdg, hmeth', hr, ret, narrow_b1]
  (try refine ⟨rfl, ?_⟩); (try refine ⟨rfl, ?_⟩)
  first | (intro acts; rw [hret _ acts rfl rfl rfl]) | rw [hret _ _ rfl rfl rfl]
  exact Steps.refl _
/-- what holds at the law's entry: the machine, the code, the tables' words (any of lw_tbl by 'hts w (by decide +kernel)'), the script of L ints xs at the cell b, what the Statement gives of the start (any of its parts by flat_of_before) -/
def lw_At (p : Program) (s : State) (m : MethodId) (meth : Method) (c : Code) (b L : Nat) (xs : Nat → Int32) : Prop :=
  p.tables.exec = Jvm.exec ∧ c.code = code ∧ meth.sig.returnType = ret ∧ c.maxLocals = 4 ∧ s.vm.findClass R_law = some m.cls ∧ (∀ w ∈ lw_tbl, w.before #[Value.ref b] s = true) ∧ va_X b L xs s s.heap ∧ b < s.heap.size ∧ meth.locks = false ∧ (Jvm.Cond.and given_1 narrow_1).before #[Value.ref b] s = true
theorem st_ck : ((List.range 25).all fun i => decide (Jvm.Cond.stringRef (stL.getD i ("", 0, "")).1 (stL.getD i ("", 0, "")).2.1 (stL.getD i ("", 0, "")).2.2 ∈ lw_tbl)) = true := by decide +kernel
theorem ls_ck : (decide (Jvm.Cond.laysStatic "java/lang/String" "COMPACT_STRINGS" "Z" ∈ lw_tbl) && decide (Jvm.Cond.laysStatic "jdk/internal/util/Preconditions" "SIOOBE_FORMATTER" "Ljava/util/function/BiFunction;" ∈ lw_tbl) && decide (Jvm.Cond.laysStatic "VotedRiver" "SETTING_MOST" "[I" ∈ lw_tbl) && decide (Jvm.Cond.arrayOver (.object "VotedRiver$State") ∈ lw_tbl) && decide (Jvm.Cond.arrayOver (.array .int) ∈ lw_tbl)) = true := by decide +kernel
/-- the heap of the mini machine at the law's start -/
def h00 (L : Nat) (xs : Nat → Int32) : Hp := ((0, fun a k => if a = 300000 then setv k else if a = 300001 then xs k else if a = 300002 then nI L else 0), (fun _ _ => 0, fun _ _ => none))
theorem GF_start {s : State} {b L : Nat} {xs : Nat → Int32} (hL : L ≤ 3072) (hts : ∀ w ∈ lw_tbl, w.before #[Value.ref b] s = true) (hX : va_X b L xs s s.heap) (hbl : b < s.heap.size) (hgv : (Jvm.Cond.and given_1 narrow_1).before #[Value.ref b] s = true) : ∃ G : GT, GF G s ∧ gB G = s.heap.size ∧ gH G = s.heap ∧ gS G = b ∧ gL G = L ∧ gX G = xs := by
  have hfl : ∀ {i : Nat} {w : Jvm.Cond}, flL[i]? = some w → w.before #[Value.ref b] s = true := fun h => flat_of_before _ hgv _ (List.mem_of_getElem? h)
  have hA : ∀ a : Nat, a < s.heap.size → ¬ (fun q => s.heap.size ≤ q) a := fun a h => Nat.not_le.mpr h
  -- the classes
  have hkn : ∀ c, ∃ q : ClassId × (Nat → Nat), c < 13 → u_Kn s (cn c) (ftab c) (fn c) q.1 q.2 := by
    intro c
    by_cases hc : c < 13
    · have hi1 := decide_eq_true_eq.mp (List.all_eq_true.mp in_ck c (List.mem_range.mpr hc))
      obtain ⟨cC, iS, h⟩ := u_known (C := cn c) (T := ftab c) (N := fn c) (n := fn c) hts (fun w hw => (List.mem_filter.mp (lay_in hc w hw)).1) (hts _ (List.mem_of_getElem? hi1))
      exact ⟨(cC, iS), fun _ => h⟩
    · exact ⟨(0, fun _ => 0), fun h => absurd h hc⟩
  obtain ⟨kf, hkf⟩ := Classical.axiomOfChoice hkn
  have h5 := fl_s
  have h6 := ls_ck
  simp only [Bool.and_eq_true, decide_eq_true_eq] at h5 h6
  obtain ⟨⟨⟨⟨f1, f2⟩, f3⟩, f4⟩, f5⟩ := h5
  obtain ⟨⟨⟨⟨l1, l2⟩, l3⟩, l4⟩, l5⟩ := h6
  have ini : ∀ {k : Nat}, k < 20 → k ≠ 13 → (Jvm.Cond.initialized (cn k)).before #[Value.ref b] s = true := fun h1 h2 => hts _ (List.mem_filter.mp (ini_w h1 h2)).1
  have z1 := va_Zof (A := fun q => s.heap.size ≤ q) (hts _ l1) (ini (k := 14) (by decide) (by decide)) (va_eqi (hfl f4)) hA
  have z2 := va_Zqof (A := fun q => s.heap.size ≤ q) (hts _ l2) (ini (k := 16) (by decide) (by decide)) (hfl f5) hA
  obtain ⟨tS, ht, hT⟩ := va_Tof (tm := stS) (ty := .int) (N := 4) (f := fun j => .int (setv j)) (A := fun q => s.heap.size ≤ q) (by decide) (hfl f1) (va_eqt (hfl f2)) (fun j hj => va_eqt (hfl (decide_eq_true_eq.mp (List.all_eq_true.mp f3 j (List.mem_range.mpr hj))))) hA
  have z3 := va_Zof (A := fun q => s.heap.size ≤ q) (hts _ l3) (ini (k := 11) (by decide) (by decide)) ht hA
  have hs0 : ∀ i, i < 25 → _ := fun i hi => List.all_eq_true.mp fl_ck0 i (List.mem_range.mpr hi)
  simp only [Bool.and_eq_true, decide_eq_true_eq] at hs0
  obtain ⟨adK, adV, hS, hKe⟩ := vk_Sof (args := #[Value.ref b]) (s := s) (N := 25) (tm := tmS) (len := lenL) (byt := bytL) (A := fun q => s.heap.size ≤ q) (fun i hi => (hs0 i hi).2) (fun i hi => hfl (hs0 i hi).1.1.1.1) (fun i hi => hfl (hs0 i hi).1.1.1.2) (fun i hi => hfl (hs0 i hi).1.1.2) (fun i hi => hfl (hs0 i hi).1.2)
    (fun i hi j hj => hfl (decide_eq_true_eq.mp (List.all_eq_true.mp (fl_e hi) j (List.mem_range.mpr hj)))) (fun i j hi hj hij => by
      have h := List.all_eq_true.mp (fl_n hi) j (List.mem_range.mpr hj)
      simp only [Bool.or_eq_true, beq_iff_eq, decide_eq_true_eq] at h
      rcases h with (h | h) | h
      · exact absurd h.symm hij
      · exact Or.inl (hfl h)
      · exact Or.inr (hfl h)) hA
  obtain ⟨fm, hfm, z2⟩ : ∃ v : Value, v.category = 1 ∧ va_Z "jdk/internal/util/Preconditions" "SIOOBE_FORMATTER" "Ljava/util/function/BiFunction;" v (fun q => s.heap.size ≤ q) s s.heap := by
    rcases z2 with z | ⟨t, z⟩
    · exact ⟨.null, rfl, z⟩
    · exact ⟨.ref t, rfl, z⟩
  refine ⟨((s.heap.size, s.heap), ((fun c => (kf c).1), fun c => (kf c).2), (adK, adV), (tS, b), fm, (L, xs)), ⟨fun c hc => hkf c hc, z1, z2, z3, hT, hS, hX, hbl, hL, fun i hi => vk_R.of (hts _ (decide_eq_true_eq.mp (List.all_eq_true.mp st_ck i (List.mem_range.mpr hi)))) (hKe i hi), fun c k m p hr => ?_, va_AO.of (hts _ l4), hts _ l5, hfm, rfl⟩, rfl, rfl, rfl, rfl, rfl⟩
  have hb := rs_wd hr
  unfold wdB at hb
  simp only [Bool.and_eq_true, decide_eq_true_eq] at hb
  exact va_Nw.of rfl (hts _ (List.mem_of_getElem? hb.1.1.1.1.1))
/-- the law, out of its run on the mini machine -/
theorem law_start {p : Program} {e : Env} {s : State} {m : MethodId} {below : List Frame} {meth : Method} {c : Code} (l : Launch) {b L : Nat} {xs : Nat → Int32} (hL : L ≤ 3072) (C0 : lw_At p s m meth c b L xs)
    (hrun : wp (ev 1900) (fun r h => r = some (.int (nI 1)) ∧ nxt h ≤ NN) 293 0 [some (.ref 300001), none, none, none] [] (h00 L xs)) : W p l e room_1 s m #[Value.ref b] below meth c s.heap [] 0 0 (lw_Z below #[Value.ref b] s) (entryFrame m ([Value.ref b] : List Value).toArray 4) := by
  obtain ⟨hx, hb, hr, hml, hown, hts, hX, hbl, hlocks, hgv⟩ := id C0
  obtain ⟨G, hG, eB, eH, eS, eL, eX⟩ := GF_start hL hts hX hbl hgv
  have eB93 : mB 293 = code := rfl
  have X : CX G 293 p s m #[Value.ref b] meth c := ⟨hx, hb.trans eB93.symm, hml, hown, fun w hw => hts w (List.mem_filter.mp hw).1, fun h => absurd h (by decide +kernel), hG, by decide +kernel⟩
  obtain ⟨n, hn⟩ := hrun
  have hSL : SLa NN ≤ 7302250 := by decide +kernel
  have hNN : NN = 220 := rfl
  have hH : HR G (h00 L xs) s s.heap := by
    refine ⟨by rw [eB]; rfl, Nat.zero_le _, fun q hq => by rw [eH], fun id hid => absurd hid (Nat.not_lt_zero _), fun id _ h k => ⟨?_, rfl, rfl⟩, fun k hk => rfl, fun j hj => by rw [eX]; rfl, by rw [eL]; rfl⟩
    show (if id = 300000 then setv k else if id = 300001 then xs k else if id = 300002 then nI L else 0) = 0
    rw [if_neg (by omega), if_neg (by omega), if_neg (by omega)]
  have hret : RetOK p l e room_1 s m #[Value.ref b] below meth c (lw_Z below #[Value.ref b] s) G 293 0 (fun r h => r = some (.int (nI 1)) ∧ nxt h ≤ NN) := by
    rintro r h1 H locs ls pc ⟨rfl, hn1⟩ hH1 hq h0 hk
    have hm := SLa_mono hn1
    have hd : decode code pc = .ok (.ireturn, 1) := by
      rcases hk with ⟨z, -⟩ | ⟨x, z, -, hd⟩ | ⟨x, z, -⟩
      · cases z
      · rw [← eB93]; exact hd
      · cases z
    have hl := lw_ret (p := p) (l := l) (e := e) (s := s) (m := m) (below := below) (meth := meth) (c := c) (b := b) hx hb hr hlocks (H := H) (ls := ls) hd
    refine W.widen (k := 600000) (n := 7302250) (by omega) (by omega) ?_
    rw [← List.nil_append locs]
    exact W.forget (fun q hq2 => by rw [← eB]; exact hq q hq2) hl
  have hbo := body (below := below) (l := l) (e := e) (n0 := 0) (R := room_1) (Q := lw_Z below #[Value.ref b] s) X (by decide) (cal_ok G l 1900) ⟨by decide, by decide⟩ hret (fun r h1 hp => by
    have := SLa_mono hp.2
    have : room_1.cells = 600000 := rfl
    have : room_1.slots = 7302250 := rfl
    constructor <;> omega) n 0 _ [] _ hn
  have hl := lv_entry ([.ref b]) (n := 4) (Nat.le_of_ble_eq_true rfl)
  rw [lg_entry_eq]
  generalize (lg_sl ([.ref b]) ++ List.replicate (4 - (lg_sl ([.ref b])).length) Slot.unset).toArray = ls at hl ⊢
  have hLR : LR G [some (.ref 300001), none, none, none] ls c.maxLocals := by
    rw [hml]
    refine ⟨rfl, lv_more hl fun q hq => ?_⟩
    obtain ⟨i, w⟩ := q
    obtain ⟨v, hv, rfl⟩ := lst_mem.mp hq
    match i, hv with
    | 0, hv =>
      simp only [List.getElem?_cons_zero, Option.some.injEq] at hv
      subst hv
      show (0, Value.ref (adr G 300001)) ∈ [(0, Value.ref b)]
      rw [adr_S, eS]
      exact List.mem_cons_self
    | 1, hv => simp at hv
    | 2, hv => simp at hv
    | 3, hv => simp at hv
    | n + 4, hv => simp at hv
  exact hbo s.heap [] ls hH hLR (fun q hq => by cases hq) (Nat.zero_le _)
