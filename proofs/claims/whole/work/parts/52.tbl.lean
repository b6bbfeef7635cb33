theorem pv_sel {C : String} {y : MethodName} {s : State} {args : Array Value} {n : Nat} (hy : y.cls ≠ "java/lang/invoke/MethodHandle" ∧ y.cls ≠ "java/lang/invoke/VarHandle") (hins : (Cond.instantiable C n).before args s = true) (hpriv : (Cond.privateMethod y).before args s = true) (hinst : (Cond.instanceMethod y).before args s = true) (hsame : (Cond.sameMethod y.cls y.cls y.name y.desc).before args s = true) : (Cond.selects C y y).before args s = true := by
  obtain ⟨c, k, hc, hk, -, -, -, -⟩ := Cond.instantiable_spec hins
  obtain ⟨mk, methM, hnamed, hmethM, -, -⟩ := Cond.instanceMethod_spec hinst
  have hfound : s.methodFound? y.cls y.name y.desc = some mk := State.methodFound?_of_named hnamed hy
  have hsel : selectMethod {} s.vm c mk = .method mk := selectMethod_private hmethM (Cond.privateMethod_at hpriv mk methM hnamed hmethM)
  obtain ⟨cn, ck, r1, hcn, hck, hni, -, -⟩ := Cond.sameMethod_found hsame
  have hcls : mk.cls = cn := Option.some.inj ((findClass_of_methodNamed hnamed).symm.trans hcn)
  simp only [Cond.before, Cond.holds, Cond.value, hc, hfound, hnamed, hsel, hcls, hck]
  simp; exact hni
def pxl : List Cond := [.selects "GradientCoder$Coding" ⟨"GradientCoder$Pass", "lookAround", "(II)V"⟩ ⟨"GradientCoder$Pass", "lookAround", "(II)V"⟩, .selects "GradientCoder$Reading" ⟨"GradientCoder$Pass", "lookAround", "(II)V"⟩ ⟨"GradientCoder$Pass", "lookAround", "(II)V"⟩, .selects "GradientCoder$Coding" ⟨"GradientCoder$Pass", "rebuiltOrNothing", "(II)I"⟩ ⟨"GradientCoder$Pass", "rebuiltOrNothing", "(II)I"⟩, .selects "GradientCoder$Reading" ⟨"GradientCoder$Pass", "rebuiltOrNothing", "(II)I"⟩ ⟨"GradientCoder$Pass", "rebuiltOrNothing", "(II)I"⟩, .selects "GradientCoder$Coding" ⟨"GradientCoder$Pass", "isEven", "()Z"⟩ ⟨"GradientCoder$Pass", "isEven", "()Z"⟩, .selects "GradientCoder$Reading" ⟨"GradientCoder$Pass", "isEven", "()Z"⟩ ⟨"GradientCoder$Pass", "isEven", "()Z"⟩, .selects "GradientCoder$Coding" ⟨"GradientCoder$Pass", "overRegular", "(I)V"⟩ ⟨"GradientCoder$Pass", "overRegular", "(I)V"⟩, .selects "GradientCoder$Reading" ⟨"GradientCoder$Pass", "overRegular", "(I)V"⟩ ⟨"GradientCoder$Pass", "overRegular", "(I)V"⟩, .selects "GradientCoder$Coding" ⟨"GradientCoder$Pass", "signedContext", "()I"⟩ ⟨"GradientCoder$Pass", "signedContext", "()I"⟩, .selects "GradientCoder$Reading" ⟨"GradientCoder$Pass", "signedContext", "()I"⟩ ⟨"GradientCoder$Pass", "signedContext", "()I"⟩, .selects "GradientCoder$Coding" ⟨"GradientCoder$Pass", "foretoldByNeighbours", "()I"⟩ ⟨"GradientCoder$Pass", "foretoldByNeighbours", "()I"⟩, .selects "GradientCoder$Reading" ⟨"GradientCoder$Pass", "foretoldByNeighbours", "()I"⟩ ⟨"GradientCoder$Pass", "foretoldByNeighbours", "()I"⟩, .selects "GradientCoder$Coding" ⟨"GradientCoder$Pass", "overEnd", "(I)V"⟩ ⟨"GradientCoder$Pass", "overEnd", "(I)V"⟩, .selects "GradientCoder$Reading" ⟨"GradientCoder$Pass", "overEnd", "(I)V"⟩ ⟨"GradientCoder$Pass", "overEnd", "(I)V"⟩]
set_option maxHeartbeats 4000000 in
set_option maxRecDepth 100000 in
theorem pxl_ok {args : Array Value} {s : State} (h : ∀ w ∈ lw_tbl, w.before args s = true) : ∀ w ∈ pxl, w.before args s = true := List.forall_mem_cons.mpr ⟨pv_sel (n := 11) (by decide +kernel) (h _ (List.mem_of_getElem? (i := 72) rfl : .instantiable "GradientCoder$Coding" 11 ∈ lw_tbl)) (h _ (List.mem_of_getElem? (i := 394) rfl : .privateMethod ⟨"GradientCoder$Pass", "lookAround", "(II)V"⟩ ∈ lw_tbl)) (h _ (List.mem_of_getElem? (i := 395) rfl : .instanceMethod ⟨"GradientCoder$Pass", "lookAround", "(II)V"⟩ ∈ lw_tbl)) (h _ (List.mem_of_getElem? (i := 1071) rfl : .sameMethod "GradientCoder$Pass" "GradientCoder$Pass" "lookAround" "(II)V" ∈ lw_tbl)), List.forall_mem_cons.mpr ⟨pv_sel (n := 10) (by decide +kernel) (h _ (List.mem_of_getElem? (i := 296) rfl : .instantiable "GradientCoder$Reading" 10 ∈ lw_tbl)) (h _ (List.mem_of_getElem? (i := 394) rfl : .privateMethod ⟨"GradientCoder$Pass", "lookAround", "(II)V"⟩ ∈ lw_tbl)) (h _ (List.mem_of_getElem? (i := 395) rfl : .instanceMethod ⟨"GradientCoder$Pass", "lookAround", "(II)V"⟩ ∈ lw_tbl)) (h _ (List.mem_of_getElem? (i := 1071) rfl : .sameMethod "GradientCoder$Pass" "GradientCoder$Pass" "lookAround" "(II)V" ∈ lw_tbl)), List.forall_mem_cons.mpr ⟨pv_sel (n := 11) (by decide +kernel) (h _ (List.mem_of_getElem? (i := 72) rfl : .instantiable "GradientCoder$Coding" 11 ∈ lw_tbl)) (h _ (List.mem_of_getElem? (i := 398) rfl : .privateMethod ⟨"GradientCoder$Pass", "rebuiltOrNothing", "(II)I"⟩ ∈ lw_tbl)) (h _ (List.mem_of_getElem? (i := 399) rfl : .instanceMethod ⟨"GradientCoder$Pass", "rebuiltOrNothing", "(II)I"⟩ ∈ lw_tbl)) (h _ (List.mem_of_getElem? (i := 1072) rfl : .sameMethod "GradientCoder$Pass" "GradientCoder$Pass" "rebuiltOrNothing" "(II)I" ∈ lw_tbl)), List.forall_mem_cons.mpr ⟨pv_sel (n := 10) (by decide +kernel) (h _ (List.mem_of_getElem? (i := 296) rfl : .instantiable "GradientCoder$Reading" 10 ∈ lw_tbl)) (h _ (List.mem_of_getElem? (i := 398) rfl : .privateMethod ⟨"GradientCoder$Pass", "rebuiltOrNothing", "(II)I"⟩ ∈ lw_tbl)) (h _ (List.mem_of_getElem? (i := 399) rfl : .instanceMethod ⟨"GradientCoder$Pass", "rebuiltOrNothing", "(II)I"⟩ ∈ lw_tbl)) (h _ (List.mem_of_getElem? (i := 1072) rfl : .sameMethod "GradientCoder$Pass" "GradientCoder$Pass" "rebuiltOrNothing" "(II)I" ∈ lw_tbl)), List.forall_mem_cons.mpr ⟨pv_sel (n := 11) (by decide +kernel) (h _ (List.mem_of_getElem? (i := 72) rfl : .instantiable "GradientCoder$Coding" 11 ∈ lw_tbl)) (h _ (List.mem_of_getElem? (i := 402) rfl : .privateMethod ⟨"GradientCoder$Pass", "isEven", "()Z"⟩ ∈ lw_tbl)) (h _ (List.mem_of_getElem? (i := 403) rfl : .instanceMethod ⟨"GradientCoder$Pass", "isEven", "()Z"⟩ ∈ lw_tbl)) (h _ (List.mem_of_getElem? (i := 1073) rfl : .sameMethod "GradientCoder$Pass" "GradientCoder$Pass" "isEven" "()Z" ∈ lw_tbl)), List.forall_mem_cons.mpr ⟨pv_sel (n := 10) (by decide +kernel) (h _ (List.mem_of_getElem? (i := 296) rfl : .instantiable "GradientCoder$Reading" 10 ∈ lw_tbl)) (h _ (List.mem_of_getElem? (i := 402) rfl : .privateMethod ⟨"GradientCoder$Pass", "isEven", "()Z"⟩ ∈ lw_tbl)) (h _ (List.mem_of_getElem? (i := 403) rfl : .instanceMethod ⟨"GradientCoder$Pass", "isEven", "()Z"⟩ ∈ lw_tbl)) (h _ (List.mem_of_getElem? (i := 1073) rfl : .sameMethod "GradientCoder$Pass" "GradientCoder$Pass" "isEven" "()Z" ∈ lw_tbl)), List.forall_mem_cons.mpr ⟨pv_sel (n := 11) (by decide +kernel) (h _ (List.mem_of_getElem? (i := 72) rfl : .instantiable "GradientCoder$Coding" 11 ∈ lw_tbl)) (h _ (List.mem_of_getElem? (i := 523) rfl : .privateMethod ⟨"GradientCoder$Pass", "overRegular", "(I)V"⟩ ∈ lw_tbl)) (h _ (List.mem_of_getElem? (i := 524) rfl : .instanceMethod ⟨"GradientCoder$Pass", "overRegular", "(I)V"⟩ ∈ lw_tbl)) (h _ (List.mem_of_getElem? (i := 1075) rfl : .sameMethod "GradientCoder$Pass" "GradientCoder$Pass" "overRegular" "(I)V" ∈ lw_tbl)), List.forall_mem_cons.mpr ⟨pv_sel (n := 10) (by decide +kernel) (h _ (List.mem_of_getElem? (i := 296) rfl : .instantiable "GradientCoder$Reading" 10 ∈ lw_tbl)) (h _ (List.mem_of_getElem? (i := 523) rfl : .privateMethod ⟨"GradientCoder$Pass", "overRegular", "(I)V"⟩ ∈ lw_tbl)) (h _ (List.mem_of_getElem? (i := 524) rfl : .instanceMethod ⟨"GradientCoder$Pass", "overRegular", "(I)V"⟩ ∈ lw_tbl)) (h _ (List.mem_of_getElem? (i := 1075) rfl : .sameMethod "GradientCoder$Pass" "GradientCoder$Pass" "overRegular" "(I)V" ∈ lw_tbl)), List.forall_mem_cons.mpr ⟨pv_sel (n := 11) (by decide +kernel) (h _ (List.mem_of_getElem? (i := 72) rfl : .instantiable "GradientCoder$Coding" 11 ∈ lw_tbl)) (h _ (List.mem_of_getElem? (i := 527) rfl : .privateMethod ⟨"GradientCoder$Pass", "signedContext", "()I"⟩ ∈ lw_tbl)) (h _ (List.mem_of_getElem? (i := 528) rfl : .instanceMethod ⟨"GradientCoder$Pass", "signedContext", "()I"⟩ ∈ lw_tbl)) (h _ (List.mem_of_getElem? (i := 1076) rfl : .sameMethod "GradientCoder$Pass" "GradientCoder$Pass" "signedContext" "()I" ∈ lw_tbl)), List.forall_mem_cons.mpr ⟨pv_sel (n := 10) (by decide +kernel) (h _ (List.mem_of_getElem? (i := 296) rfl : .instantiable "GradientCoder$Reading" 10 ∈ lw_tbl)) (h _ (List.mem_of_getElem? (i := 527) rfl : .privateMethod ⟨"GradientCoder$Pass", "signedContext", "()I"⟩ ∈ lw_tbl)) (h _ (List.mem_of_getElem? (i := 528) rfl : .instanceMethod ⟨"GradientCoder$Pass", "signedContext", "()I"⟩ ∈ lw_tbl)) (h _ (List.mem_of_getElem? (i := 1076) rfl : .sameMethod "GradientCoder$Pass" "GradientCoder$Pass" "signedContext" "()I" ∈ lw_tbl)), List.forall_mem_cons.mpr ⟨pv_sel (n := 11) (by decide +kernel) (h _ (List.mem_of_getElem? (i := 72) rfl : .instantiable "GradientCoder$Coding" 11 ∈ lw_tbl)) (h _ (List.mem_of_getElem? (i := 538) rfl : .privateMethod ⟨"GradientCoder$Pass", "foretoldByNeighbours", "()I"⟩ ∈ lw_tbl)) (h _ (List.mem_of_getElem? (i := 539) rfl : .instanceMethod ⟨"GradientCoder$Pass", "foretoldByNeighbours", "()I"⟩ ∈ lw_tbl)) (h _ (List.mem_of_getElem? (i := 1077) rfl : .sameMethod "GradientCoder$Pass" "GradientCoder$Pass" "foretoldByNeighbours" "()I" ∈ lw_tbl)), List.forall_mem_cons.mpr ⟨pv_sel (n := 10) (by decide +kernel) (h _ (List.mem_of_getElem? (i := 296) rfl : .instantiable "GradientCoder$Reading" 10 ∈ lw_tbl)) (h _ (List.mem_of_getElem? (i := 538) rfl : .privateMethod ⟨"GradientCoder$Pass", "foretoldByNeighbours", "()I"⟩ ∈ lw_tbl)) (h _ (List.mem_of_getElem? (i := 539) rfl : .instanceMethod ⟨"GradientCoder$Pass", "foretoldByNeighbours", "()I"⟩ ∈ lw_tbl)) (h _ (List.mem_of_getElem? (i := 1077) rfl : .sameMethod "GradientCoder$Pass" "GradientCoder$Pass" "foretoldByNeighbours" "()I" ∈ lw_tbl)), List.forall_mem_cons.mpr ⟨pv_sel (n := 11) (by decide +kernel) (h _ (List.mem_of_getElem? (i := 72) rfl : .instantiable "GradientCoder$Coding" 11 ∈ lw_tbl)) (h _ (List.mem_of_getElem? (i := 630) rfl : .privateMethod ⟨"GradientCoder$Pass", "overEnd", "(I)V"⟩ ∈ lw_tbl)) (h _ (List.mem_of_getElem? (i := 631) rfl : .instanceMethod ⟨"GradientCoder$Pass", "overEnd", "(I)V"⟩ ∈ lw_tbl)) (h _ (List.mem_of_getElem? (i := 1078) rfl : .sameMethod "GradientCoder$Pass" "GradientCoder$Pass" "overEnd" "(I)V" ∈ lw_tbl)), List.forall_mem_cons.mpr ⟨pv_sel (n := 10) (by decide +kernel) (h _ (List.mem_of_getElem? (i := 296) rfl : .instantiable "GradientCoder$Reading" 10 ∈ lw_tbl)) (h _ (List.mem_of_getElem? (i := 630) rfl : .privateMethod ⟨"GradientCoder$Pass", "overEnd", "(I)V"⟩ ∈ lw_tbl)) (h _ (List.mem_of_getElem? (i := 631) rfl : .instanceMethod ⟨"GradientCoder$Pass", "overEnd", "(I)V"⟩ ∈ lw_tbl)) (h _ (List.mem_of_getElem? (i := 1078) rfl : .sameMethod "GradientCoder$Pass" "GradientCoder$Pass" "overEnd" "(I)V" ∈ lw_tbl)), (fun _ h => absurd h List.not_mem_nil)⟩⟩⟩⟩⟩⟩⟩⟩⟩⟩⟩⟩⟩⟩
set_option maxHeartbeats 4000000 in
set_option maxRecDepth 100000 in
theorem TS_0_pl : TS_0 = [0, 1, 2, 3, 4, 5, 6, 7, 8, 9, 10, 11, 12, 13, 14, 15, 16, 17, 18, 19, 20, 21, 22, 23, 24, 25, 26, 27, 28, 29, 30, 31, 32, 33, 34, 35, 36, 37, 38, 39, 40, 41, 42, 43, 44, 45, 46, 47, 48, 49, 50, 51, 52, 53, 54, 55, 56, 57, 58, 59].filterMap (fun i => (pxl ++ lw_tbl)[i]?) := rfl
set_option maxHeartbeats 4000000 in
set_option maxRecDepth 100000 in
theorem TS_1_pl : TS_1 = [60, 61, 62, 63, 64, 65, 66, 67, 68, 69, 70, 71, 72, 73, 74, 75, 76, 77, 78, 79, 80, 81, 82, 83, 84, 85, 86, 87, 88, 89, 91, 92, 93, 94, 95, 96, 97, 98, 99, 100, 101, 102, 103, 104, 105, 106, 107, 108, 109, 110, 112, 113, 114, 116, 117, 118, 120, 121, 122, 123].filterMap (fun i => (pxl ++ lw_tbl)[i]?) := rfl
set_option maxHeartbeats 4000000 in
set_option maxRecDepth 100000 in
theorem TS_2_pl : TS_2 = [124, 125, 126, 127, 128, 129, 130, 131, 132, 133, 134, 135, 136, 137, 138, 139, 140, 141, 142, 143, 144, 145, 146, 147, 148, 149, 150, 151, 152, 153, 154, 155, 156, 157, 158, 159, 160, 162, 164, 166, 168, 170, 172, 174, 176, 178, 180, 182, 183, 184, 186, 187, 188, 189, 190, 191, 192, 193, 194, 195].filterMap (fun i => (pxl ++ lw_tbl)[i]?) := rfl
set_option maxHeartbeats 4000000 in
set_option maxRecDepth 100000 in
theorem TS_3_pl : TS_3 = [196, 197, 198, 199, 200, 201, 202, 204, 206, 208, 210, 212, 214, 215, 216, 217, 219, 220, 221, 222, 223, 224, 225, 226, 227, 228, 229, 230, 232, 234, 236, 237, 238, 239, 240, 241, 242, 243, 244, 245, 246, 247, 248, 249, 250, 251, 252, 253, 254, 255, 256, 257, 258, 259, 260, 261, 262, 263, 264, 265].filterMap (fun i => (pxl ++ lw_tbl)[i]?) := rfl
set_option maxHeartbeats 4000000 in
set_option maxRecDepth 100000 in
theorem TS_4_pl : TS_4 = [266, 267, 268, 269, 270, 271, 272, 273, 274, 275, 276, 277, 278, 279, 280, 281, 282, 283, 284, 285, 286, 288, 290, 292, 294, 296, 298, 300, 302, 304, 306, 308, 309, 310, 312, 313, 315, 316, 318, 319, 320, 321, 322, 323, 324, 325, 326, 328, 330, 332, 334, 335, 336, 337, 339, 340, 341, 342, 343, 344].filterMap (fun i => (pxl ++ lw_tbl)[i]?) := rfl
set_option maxHeartbeats 4000000 in
set_option maxRecDepth 100000 in
theorem TS_5_pl : TS_5 = [345, 346, 347, 348, 349, 350, 351, 353, 355, 356, 357, 358, 359, 360, 361, 362, 363, 364, 365, 366, 367, 368, 369, 370, 371, 372, 373, 374, 375, 376, 377, 378, 379, 380, 381, 382, 383, 384, 385, 386, 387, 388, 389, 390, 391, 392, 393, 394, 395, 396, 397, 398, 399, 400, 402, 403, 404, 405, 406, 407].filterMap (fun i => (pxl ++ lw_tbl)[i]?) := rfl
set_option maxHeartbeats 4000000 in
set_option maxRecDepth 100000 in
theorem TS_6_pl : TS_6 = [409, 410, 411, 413, 414, 415, 417, 418, 419, 420, 421, 422, 423, 425, 426, 427, 428, 429, 430, 431, 432, 433, 434, 436, 437, 438, 439, 440, 442, 443, 444, 445, 446, 447, 448, 449, 450, 451, 452, 453, 454, 455, 456, 457, 458, 466, 467, 468, 469, 470, 471, 472, 473, 474, 475, 476, 477, 478, 479, 480].filterMap (fun i => (pxl ++ lw_tbl)[i]?) := rfl
set_option maxHeartbeats 4000000 in
set_option maxRecDepth 100000 in
theorem TS_7_pl : TS_7 = [481, 482, 483, 485, 487, 488, 489, 490, 491, 493, 494, 495, 497, 498, 499, 500, 501, 502, 503, 504, 505, 506, 507, 508, 510, 511, 512, 513, 518, 521, 522, 523, 525, 526, 527, 528, 529, 530, 531, 532, 534, 535, 536, 538, 539, 540, 542, 543, 544, 545, 546, 547, 548, 549, 550, 551, 553, 554, 555, 556].filterMap (fun i => (pxl ++ lw_tbl)[i]?) := rfl
set_option maxHeartbeats 4000000 in
set_option maxRecDepth 100000 in
theorem TS_8_pl : TS_8 = [557, 558, 559, 560, 561, 562, 563, 564, 565, 566, 567, 568, 570, 571, 572, 573, 574, 575, 576, 578, 579, 580, 581, 582, 584, 585, 586, 587, 588, 589, 590, 591, 592, 593, 594, 595, 596, 597, 598, 599, 600, 601, 602, 603, 604, 605, 606, 607, 608, 609, 611, 612, 613, 614, 615, 617, 618, 619, 620, 621].filterMap (fun i => (pxl ++ lw_tbl)[i]?) := rfl
set_option maxHeartbeats 4000000 in
set_option maxRecDepth 100000 in
theorem TS_9_pl : TS_9 = [622, 624, 625, 626, 627, 628, 629, 630, 631, 632, 633, 634, 636, 637, 638, 640, 641, 642, 643, 645, 646, 647, 648, 649, 650, 651, 652, 653, 654, 655, 657, 658, 659, 660, 661, 662, 663, 664, 665, 666, 668, 669, 670, 671, 672, 673, 674, 675, 676, 677, 678, 679, 680, 681, 682, 683, 684, 685, 686, 687].filterMap (fun i => (pxl ++ lw_tbl)[i]?) := rfl
set_option maxHeartbeats 4000000 in
set_option maxRecDepth 100000 in
theorem TS_10_pl : TS_10 = [688, 689, 690, 691, 692, 693, 694, 695, 696, 697, 698, 699, 700, 701, 702, 704, 705, 706, 707, 708, 709, 710, 711, 712, 713, 714, 715, 716, 717, 718, 719, 720, 721, 722, 723, 724, 725, 726, 727, 728, 729, 730, 731, 732, 733, 734, 735, 736, 737, 738, 739, 740, 741, 742, 743, 744, 745, 746, 747, 748].filterMap (fun i => (pxl ++ lw_tbl)[i]?) := rfl
set_option maxHeartbeats 4000000 in
set_option maxRecDepth 100000 in
theorem TS_11_pl : TS_11 = [749, 750, 751, 752, 753, 754, 755, 757, 758, 759, 761, 763, 764, 765, 766, 767, 768, 769, 770, 774, 775, 776, 777, 778, 779, 780, 781, 782, 783, 784, 785, 786, 787, 788, 789, 790, 792, 793, 794, 795, 796, 797, 798, 799, 800, 802, 803, 804, 806, 807, 808, 809, 810, 811, 812, 813, 814, 815, 816, 817].filterMap (fun i => (pxl ++ lw_tbl)[i]?) := rfl
set_option maxHeartbeats 4000000 in
set_option maxRecDepth 100000 in
theorem TS_12_pl : TS_12 = [818, 819, 820, 821, 822, 823, 824, 825, 826, 827, 828, 829, 830, 831, 832, 833, 834, 835, 836, 838, 840, 842, 844, 846, 848, 850, 852, 854, 856, 858, 860, 862, 864, 866, 868, 870, 872, 874, 876, 878, 880, 882, 884, 886, 888, 890, 892, 893, 894, 895, 896, 897, 898, 899, 900, 901, 902, 903, 904, 905].filterMap (fun i => (pxl ++ lw_tbl)[i]?) := rfl
set_option maxHeartbeats 4000000 in
set_option maxRecDepth 100000 in
theorem TS_13_pl : TS_13 = [906, 907, 908, 909, 910, 911, 912, 913, 915, 916, 917, 919, 920, 921, 923, 924, 925, 927, 928, 929, 931, 932, 933, 935, 936, 937, 939, 940, 941, 943, 944, 945, 947, 948, 949, 951, 952, 953, 955, 956, 957, 959, 960, 961, 963, 964, 965, 966, 967, 968, 970, 971, 972, 974, 975, 976, 978, 979, 980, 982].filterMap (fun i => (pxl ++ lw_tbl)[i]?) := rfl
set_option maxHeartbeats 4000000 in
set_option maxRecDepth 100000 in
theorem TS_14_pl : TS_14 = [983, 984, 986, 987, 988, 990, 991, 992, 994, 995, 996, 998, 999, 1000, 1002, 1003, 1004, 1005, 1006, 1007, 1009, 1010, 1011, 1013, 1014, 1015, 1017, 1018, 1019, 1020, 1021, 1022, 1024, 1025, 1026, 1027, 1028, 1029, 1030, 1032, 1033, 1034, 1036, 1037, 1038, 1040, 1041, 1042, 1043, 1044, 1045, 1046, 1047, 1048, 1049, 1050, 1051, 1052, 1053, 1054].filterMap (fun i => (pxl ++ lw_tbl)[i]?) := rfl
set_option maxHeartbeats 4000000 in
set_option maxRecDepth 100000 in
theorem TS_15_pl : TS_15 = [1055, 1056, 1057, 1058, 1059, 1060, 1061, 1062, 1063, 1064, 1065, 1066, 1068, 1069, 1070, 1071, 1072, 1073, 1074, 1075, 1076, 1077, 1078, 1079, 1080, 1081, 1082, 1083, 1084, 1085, 1086, 1087, 1088, 1089, 1090, 1091, 1092].filterMap (fun i => (pxl ++ lw_tbl)[i]?) := rfl
theorem fm_mem {L : List Cond} {B : List Cond} {ps : List Nat} (h : L = ps.filterMap (fun i => B[i]?)) : ∀ w ∈ L, w ∈ B := by
  intro w hw
  rw [h] at hw
  obtain ⟨i, -, hi⟩ := List.mem_filterMap.mp hw
  exact List.mem_of_getElem? hi
theorem TS_tbl : ∀ w ∈ TS, w ∈ pxl ++ lw_tbl := by
  intro w h
  unfold TS at h
  rcases List.mem_append.mp h with h | h
  · exact fm_mem TS_0_pl w h
  rcases List.mem_append.mp h with h | h
  · exact fm_mem TS_1_pl w h
  rcases List.mem_append.mp h with h | h
  · exact fm_mem TS_2_pl w h
  rcases List.mem_append.mp h with h | h
  · exact fm_mem TS_3_pl w h
  rcases List.mem_append.mp h with h | h
  · exact fm_mem TS_4_pl w h
  rcases List.mem_append.mp h with h | h
  · exact fm_mem TS_5_pl w h
  rcases List.mem_append.mp h with h | h
  · exact fm_mem TS_6_pl w h
  rcases List.mem_append.mp h with h | h
  · exact fm_mem TS_7_pl w h
  rcases List.mem_append.mp h with h | h
  · exact fm_mem TS_8_pl w h
  rcases List.mem_append.mp h with h | h
  · exact fm_mem TS_9_pl w h
  rcases List.mem_append.mp h with h | h
  · exact fm_mem TS_10_pl w h
  rcases List.mem_append.mp h with h | h
  · exact fm_mem TS_11_pl w h
  rcases List.mem_append.mp h with h | h
  · exact fm_mem TS_12_pl w h
  rcases List.mem_append.mp h with h | h
  · exact fm_mem TS_13_pl w h
  rcases List.mem_append.mp h with h | h
  · exact fm_mem TS_14_pl w h
  exact fm_mem TS_15_pl w h
theorem TS_at {args : Array Value} {s : State} (h : ∀ w ∈ lw_tbl, w.before args s = true) : ∀ w ∈ TS, w.before args s = true := by
  intro w hw
  rcases List.mem_append.mp (TS_tbl w hw) with h1 | h1
  · exact pxl_ok h w h1
  · exact h w h1
