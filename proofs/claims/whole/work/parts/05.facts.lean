/-! FACTS of the tables, by their places -/
def sm_gw : List Cond := lw_tbl.filter goodWord
theorem sm_mem {w : Cond} (i : Nat) (h : tables_1[i]? = some w) (g : goodWord w = true) : w ∈ sm_gw := List.mem_filter.mpr ⟨List.mem_append_right _ (List.mem_of_getElem? h), g⟩
theorem sm_memP {w : Cond} (i : Nat) (h : (k2_sels lw_privs)[i]? = some w) (g : goodWord w = true) : w ∈ sm_gw := List.mem_filter.mpr ⟨List.mem_append_left _ (List.mem_of_getElem? h), g⟩
theorem sm_gw_tbl {args : Array Value} {s : State} (h : ∀ w ∈ lw_tbl, w.before args s = true) : ∀ w ∈ sm_gw, w.before args s = true := fun w hw => h w (List.mem_filter.mp hw).1
def sm_ws (y : Nat) : List Cond := Cond.code (sm_yn y) (sm_cd y) (sm_ml y) (sm_rt y) :: sm_gw
def sm_T : Nat → u_T
  | 0 => TX0
  | 1 => TX1
  | 2 => TX2
  | 3 => TX3
  | 4 => TX4
  | _ => TX5
def sm_ty : Nat → Nat → FieldType
  | 0 => tyX0
  | 1 => tyX1
  | 2 => tyX2
  | 3 => tyX3
  | 4 => tyX4
  | _ => tyX5
def sm_Nf : Nat → Nat
  | 0 => 4
  | 1 => 12
  | 2 => 13
  | 3 => 4
  | 4 => 7
  | _ => 12
def sm_nm : Nat := 116
theorem sm_k0 : Cond.code (sm_yn 0) (sm_cd 0) (sm_ml 0) (sm_rt 0) ∈ sm_gw := sm_mem 386 (by decide +kernel) (by decide +kernel)
theorem sm_k1 : Cond.code (sm_yn 1) (sm_cd 1) (sm_ml 1) (sm_rt 1) ∈ sm_gw := sm_mem 439 (by decide +kernel) (by decide +kernel)
theorem sm_k2 : Cond.code (sm_yn 2) (sm_cd 2) (sm_ml 2) (sm_rt 2) ∈ sm_gw := sm_mem 435 (by decide +kernel) (by decide +kernel)
theorem sm_k3 : Cond.code (sm_yn 3) (sm_cd 3) (sm_ml 3) (sm_rt 3) ∈ sm_gw := sm_mem 367 (by decide +kernel) (by decide +kernel)
theorem sm_k4 : Cond.code (sm_yn 4) (sm_cd 4) (sm_ml 4) (sm_rt 4) ∈ sm_gw := sm_mem 412 (by decide +kernel) (by decide +kernel)
theorem sm_k5 : Cond.code (sm_yn 5) (sm_cd 5) (sm_ml 5) (sm_rt 5) ∈ sm_gw := sm_mem 503 (by decide +kernel) (by decide +kernel)
theorem sm_k6 : Cond.code (sm_yn 6) (sm_cd 6) (sm_ml 6) (sm_rt 6) ∈ sm_gw := sm_mem 507 (by decide +kernel) (by decide +kernel)
theorem sm_k7 : Cond.code (sm_yn 7) (sm_cd 7) (sm_ml 7) (sm_rt 7) ∈ sm_gw := sm_mem 511 (by decide +kernel) (by decide +kernel)
theorem sm_k8 : Cond.code (sm_yn 8) (sm_cd 8) (sm_ml 8) (sm_rt 8) ∈ sm_gw := sm_mem 452 (by decide +kernel) (by decide +kernel)
theorem sm_k9 : Cond.code (sm_yn 9) (sm_cd 9) (sm_ml 9) (sm_rt 9) ∈ sm_gw := sm_mem 242 (by decide +kernel) (by decide +kernel)
theorem sm_k10 : Cond.code (sm_yn 10) (sm_cd 10) (sm_ml 10) (sm_rt 10) ∈ sm_gw := sm_mem 266 (by decide +kernel) (by decide +kernel)
theorem sm_k11 : Cond.code (sm_yn 11) (sm_cd 11) (sm_ml 11) (sm_rt 11) ∈ sm_gw := sm_mem 270 (by decide +kernel) (by decide +kernel)
theorem sm_k12 : Cond.code (sm_yn 12) (sm_cd 12) (sm_ml 12) (sm_rt 12) ∈ sm_gw := sm_mem 274 (by decide +kernel) (by decide +kernel)
theorem sm_k13 : Cond.code (sm_yn 13) (sm_cd 13) (sm_ml 13) (sm_rt 13) ∈ sm_gw := sm_mem 278 (by decide +kernel) (by decide +kernel)
theorem sm_k14 : Cond.code (sm_yn 14) (sm_cd 14) (sm_ml 14) (sm_rt 14) ∈ sm_gw := sm_mem 282 (by decide +kernel) (by decide +kernel)
theorem sm_k15 : Cond.code (sm_yn 15) (sm_cd 15) (sm_ml 15) (sm_rt 15) ∈ sm_gw := sm_mem 286 (by decide +kernel) (by decide +kernel)
theorem sm_k16 : Cond.code (sm_yn 16) (sm_cd 16) (sm_ml 16) (sm_rt 16) ∈ sm_gw := sm_mem 347 (by decide +kernel) (by decide +kernel)
theorem sm_k17 : Cond.code (sm_yn 17) (sm_cd 17) (sm_ml 17) (sm_rt 17) ∈ sm_gw := sm_mem 298 (by decide +kernel) (by decide +kernel)
theorem sm_k18 : Cond.code (sm_yn 18) (sm_cd 18) (sm_ml 18) (sm_rt 18) ∈ sm_gw := sm_mem 422 (by decide +kernel) (by decide +kernel)
theorem sm_k19 : Cond.code (sm_yn 19) (sm_cd 19) (sm_ml 19) (sm_rt 19) ∈ sm_gw := sm_mem 294 (by decide +kernel) (by decide +kernel)
theorem sm_k20 : Cond.code (sm_yn 20) (sm_cd 20) (sm_ml 20) (sm_rt 20) ∈ sm_gw := sm_mem 379 (by decide +kernel) (by decide +kernel)
theorem sm_k21 : Cond.code (sm_yn 21) (sm_cd 21) (sm_ml 21) (sm_rt 21) ∈ sm_gw := sm_mem 363 (by decide +kernel) (by decide +kernel)
theorem sm_k22 : Cond.code (sm_yn 22) (sm_cd 22) (sm_ml 22) (sm_rt 22) ∈ sm_gw := sm_mem 359 (by decide +kernel) (by decide +kernel)
theorem sm_k23 : Cond.code (sm_yn 23) (sm_cd 23) (sm_ml 23) (sm_rt 23) ∈ sm_gw := sm_mem 456 (by decide +kernel) (by decide +kernel)
theorem sm_k24 : Cond.code (sm_yn 24) (sm_cd 24) (sm_ml 24) (sm_rt 24) ∈ sm_gw := sm_mem 519 (by decide +kernel) (by decide +kernel)
theorem sm_k25 : Cond.code (sm_yn 25) (sm_cd 25) (sm_ml 25) (sm_rt 25) ∈ sm_gw := sm_mem 395 (by decide +kernel) (by decide +kernel)
theorem sm_k26 : Cond.code (sm_yn 26) (sm_cd 26) (sm_ml 26) (sm_rt 26) ∈ sm_gw := sm_mem 399 (by decide +kernel) (by decide +kernel)
theorem sm_k27 : Cond.code (sm_yn 27) (sm_cd 27) (sm_ml 27) (sm_rt 27) ∈ sm_gw := sm_mem 404 (by decide +kernel) (by decide +kernel)
theorem sm_k28 : Cond.code (sm_yn 28) (sm_cd 28) (sm_ml 28) (sm_rt 28) ∈ sm_gw := sm_mem 444 (by decide +kernel) (by decide +kernel)
theorem sm_k29 : Cond.code (sm_yn 29) (sm_cd 29) (sm_ml 29) (sm_rt 29) ∈ sm_gw := sm_mem 426 (by decide +kernel) (by decide +kernel)
theorem sm_k30 : Cond.code (sm_yn 30) (sm_cd 30) (sm_ml 30) (sm_rt 30) ∈ sm_gw := sm_mem 408 (by decide +kernel) (by decide +kernel)
theorem sm_k31 : Cond.code (sm_yn 31) (sm_cd 31) (sm_ml 31) (sm_rt 31) ∈ sm_gw := sm_mem 431 (by decide +kernel) (by decide +kernel)
theorem sm_k32 : Cond.code (sm_yn 32) (sm_cd 32) (sm_ml 32) (sm_rt 32) ∈ sm_gw := sm_mem 460 (by decide +kernel) (by decide +kernel)
theorem sm_k33 : Cond.code (sm_yn 33) (sm_cd 33) (sm_ml 33) (sm_rt 33) ∈ sm_gw := sm_mem 464 (by decide +kernel) (by decide +kernel)
theorem sm_k34 : Cond.code (sm_yn 34) (sm_cd 34) (sm_ml 34) (sm_rt 34) ∈ sm_gw := sm_mem 234 (by decide +kernel) (by decide +kernel)
theorem sm_k35 : Cond.code (sm_yn 35) (sm_cd 35) (sm_ml 35) (sm_rt 35) ∈ sm_gw := sm_mem 238 (by decide +kernel) (by decide +kernel)
theorem sm_k36 : Cond.code (sm_yn 36) (sm_cd 36) (sm_ml 36) (sm_rt 36) ∈ sm_gw := sm_mem 246 (by decide +kernel) (by decide +kernel)
theorem sm_k37 : Cond.code (sm_yn 37) (sm_cd 37) (sm_ml 37) (sm_rt 37) ∈ sm_gw := sm_mem 254 (by decide +kernel) (by decide +kernel)
theorem sm_k38 : Cond.code (sm_yn 38) (sm_cd 38) (sm_ml 38) (sm_rt 38) ∈ sm_gw := sm_mem 258 (by decide +kernel) (by decide +kernel)
theorem sm_k39 : Cond.code (sm_yn 39) (sm_cd 39) (sm_ml 39) (sm_rt 39) ∈ sm_gw := sm_mem 262 (by decide +kernel) (by decide +kernel)
theorem sm_k40 : Cond.code (sm_yn 40) (sm_cd 40) (sm_ml 40) (sm_rt 40) ∈ sm_gw := sm_mem 250 (by decide +kernel) (by decide +kernel)
theorem sm_k41 : Cond.code (sm_yn 41) (sm_cd 41) (sm_ml 41) (sm_rt 41) ∈ sm_gw := sm_mem 331 (by decide +kernel) (by decide +kernel)
theorem sm_k42 : Cond.code (sm_yn 42) (sm_cd 42) (sm_ml 42) (sm_rt 42) ∈ sm_gw := sm_mem 335 (by decide +kernel) (by decide +kernel)
theorem sm_k43 : Cond.code (sm_yn 43) (sm_cd 43) (sm_ml 43) (sm_rt 43) ∈ sm_gw := sm_mem 339 (by decide +kernel) (by decide +kernel)
theorem sm_k44 : Cond.code (sm_yn 44) (sm_cd 44) (sm_ml 44) (sm_rt 44) ∈ sm_gw := sm_mem 343 (by decide +kernel) (by decide +kernel)
theorem sm_k45 : Cond.code (sm_yn 45) (sm_cd 45) (sm_ml 45) (sm_rt 45) ∈ sm_gw := sm_mem 351 (by decide +kernel) (by decide +kernel)
theorem sm_k46 : Cond.code (sm_yn 46) (sm_cd 46) (sm_ml 46) (sm_rt 46) ∈ sm_gw := sm_mem 468 (by decide +kernel) (by decide +kernel)
theorem sm_k47 : Cond.code (sm_yn 47) (sm_cd 47) (sm_ml 47) (sm_rt 47) ∈ sm_gw := sm_mem 476 (by decide +kernel) (by decide +kernel)
theorem sm_k48 : Cond.code (sm_yn 48) (sm_cd 48) (sm_ml 48) (sm_rt 48) ∈ sm_gw := sm_mem 484 (by decide +kernel) (by decide +kernel)
theorem sm_k49 : Cond.code (sm_yn 49) (sm_cd 49) (sm_ml 49) (sm_rt 49) ∈ sm_gw := sm_mem 488 (by decide +kernel) (by decide +kernel)
theorem sm_k50 : Cond.code (sm_yn 50) (sm_cd 50) (sm_ml 50) (sm_rt 50) ∈ sm_gw := sm_mem 492 (by decide +kernel) (by decide +kernel)
theorem sm_k51 : Cond.code (sm_yn 51) (sm_cd 51) (sm_ml 51) (sm_rt 51) ∈ sm_gw := sm_mem 499 (by decide +kernel) (by decide +kernel)
theorem sm_k52 : Cond.code (sm_yn 52) (sm_cd 52) (sm_ml 52) (sm_rt 52) ∈ sm_gw := sm_mem 515 (by decide +kernel) (by decide +kernel)
theorem sm_k53 : Cond.code (sm_yn 53) (sm_cd 53) (sm_ml 53) (sm_rt 53) ∈ sm_gw := sm_mem 529 (by decide +kernel) (by decide +kernel)
theorem sm_k54 : Cond.code (sm_yn 54) (sm_cd 54) (sm_ml 54) (sm_rt 54) ∈ sm_gw := sm_mem 534 (by decide +kernel) (by decide +kernel)
theorem sm_k55 : Cond.code (sm_yn 55) (sm_cd 55) (sm_ml 55) (sm_rt 55) ∈ sm_gw := sm_mem 539 (by decide +kernel) (by decide +kernel)
theorem sm_k56 : Cond.code (sm_yn 56) (sm_cd 56) (sm_ml 56) (sm_rt 56) ∈ sm_gw := sm_mem 472 (by decide +kernel) (by decide +kernel)
theorem sm_k57 : Cond.code (sm_yn 57) (sm_cd 57) (sm_ml 57) (sm_rt 57) ∈ sm_gw := sm_mem 480 (by decide +kernel) (by decide +kernel)
theorem sm_k58 : Cond.code (sm_yn 58) (sm_cd 58) (sm_ml 58) (sm_rt 58) ∈ sm_gw := sm_mem 355 (by decide +kernel) (by decide +kernel)
theorem sm_k59 : Cond.code (sm_yn 59) (sm_cd 59) (sm_ml 59) (sm_rt 59) ∈ sm_gw := sm_mem 290 (by decide +kernel) (by decide +kernel)
theorem sm_k60 : Cond.code (sm_yn 60) (sm_cd 60) (sm_ml 60) (sm_rt 60) ∈ sm_gw := sm_mem 371 (by decide +kernel) (by decide +kernel)
theorem sm_k61 : Cond.code (sm_yn 61) (sm_cd 61) (sm_ml 61) (sm_rt 61) ∈ sm_gw := sm_mem 375 (by decide +kernel) (by decide +kernel)
theorem sm_k62 : Cond.code (sm_yn 62) (sm_cd 62) (sm_ml 62) (sm_rt 62) ∈ sm_gw := sm_mem 391 (by decide +kernel) (by decide +kernel)
theorem sm_k63 : Cond.code (sm_yn 63) (sm_cd 63) (sm_ml 63) (sm_rt 63) ∈ sm_gw := sm_mem 447 (by decide +kernel) (by decide +kernel)
theorem sm_k64 : Cond.code (sm_yn 64) (sm_cd 64) (sm_ml 64) (sm_rt 64) ∈ sm_gw := sm_mem 415 (by decide +kernel) (by decide +kernel)
theorem sm_k65 : Cond.code (sm_yn 65) (sm_cd 65) (sm_ml 65) (sm_rt 65) ∈ sm_gw := sm_mem 602 (by decide +kernel) (by decide +kernel)
theorem sm_k66 : Cond.code (sm_yn 66) (sm_cd 66) (sm_ml 66) (sm_rt 66) ∈ sm_gw := sm_mem 693 (by decide +kernel) (by decide +kernel)
theorem sm_k67 : Cond.code (sm_yn 67) (sm_cd 67) (sm_ml 67) (sm_rt 67) ∈ sm_gw := sm_mem 696 (by decide +kernel) (by decide +kernel)
theorem sm_k68 : Cond.code (sm_yn 68) (sm_cd 68) (sm_ml 68) (sm_rt 68) ∈ sm_gw := sm_mem 599 (by decide +kernel) (by decide +kernel)
theorem sm_k69 : Cond.code (sm_yn 69) (sm_cd 69) (sm_ml 69) (sm_rt 69) ∈ sm_gw := sm_mem 606 (by decide +kernel) (by decide +kernel)
theorem sm_k70 : Cond.code (sm_yn 70) (sm_cd 70) (sm_ml 70) (sm_rt 70) ∈ sm_gw := sm_mem 549 (by decide +kernel) (by decide +kernel)
theorem sm_k71 : Cond.code (sm_yn 71) (sm_cd 71) (sm_ml 71) (sm_rt 71) ∈ sm_gw := sm_mem 553 (by decide +kernel) (by decide +kernel)
theorem sm_k72 : Cond.code (sm_yn 72) (sm_cd 72) (sm_ml 72) (sm_rt 72) ∈ sm_gw := sm_mem 630 (by decide +kernel) (by decide +kernel)
theorem sm_k73 : Cond.code (sm_yn 73) (sm_cd 73) (sm_ml 73) (sm_rt 73) ∈ sm_gw := sm_mem 626 (by decide +kernel) (by decide +kernel)
theorem sm_k74 : Cond.code (sm_yn 74) (sm_cd 74) (sm_ml 74) (sm_rt 74) ∈ sm_gw := sm_mem 622 (by decide +kernel) (by decide +kernel)
theorem sm_k75 : Cond.code (sm_yn 75) (sm_cd 75) (sm_ml 75) (sm_rt 75) ∈ sm_gw := sm_mem 638 (by decide +kernel) (by decide +kernel)
theorem sm_k76 : Cond.code (sm_yn 76) (sm_cd 76) (sm_ml 76) (sm_rt 76) ∈ sm_gw := sm_mem 634 (by decide +kernel) (by decide +kernel)
theorem sm_k77 : Cond.code (sm_yn 77) (sm_cd 77) (sm_ml 77) (sm_rt 77) ∈ sm_gw := sm_mem 642 (by decide +kernel) (by decide +kernel)
theorem sm_k78 : Cond.code (sm_yn 78) (sm_cd 78) (sm_ml 78) (sm_rt 78) ∈ sm_gw := sm_mem 618 (by decide +kernel) (by decide +kernel)
theorem sm_k79 : Cond.code (sm_yn 79) (sm_cd 79) (sm_ml 79) (sm_rt 79) ∈ sm_gw := sm_mem 614 (by decide +kernel) (by decide +kernel)
theorem sm_k80 : Cond.code (sm_yn 80) (sm_cd 80) (sm_ml 80) (sm_rt 80) ∈ sm_gw := sm_mem 610 (by decide +kernel) (by decide +kernel)
theorem sm_k81 : Cond.code (sm_yn 81) (sm_cd 81) (sm_ml 81) (sm_rt 81) ∈ sm_gw := sm_mem 646 (by decide +kernel) (by decide +kernel)
theorem sm_k82 : Cond.code (sm_yn 82) (sm_cd 82) (sm_ml 82) (sm_rt 82) ∈ sm_gw := sm_mem 557 (by decide +kernel) (by decide +kernel)
theorem sm_k83 : Cond.code (sm_yn 83) (sm_cd 83) (sm_ml 83) (sm_rt 83) ∈ sm_gw := sm_mem 662 (by decide +kernel) (by decide +kernel)
theorem sm_k84 : Cond.code (sm_yn 84) (sm_cd 84) (sm_ml 84) (sm_rt 84) ∈ sm_gw := sm_mem 682 (by decide +kernel) (by decide +kernel)
theorem sm_k85 : Cond.code (sm_yn 85) (sm_cd 85) (sm_ml 85) (sm_rt 85) ∈ sm_gw := sm_mem 670 (by decide +kernel) (by decide +kernel)
theorem sm_k86 : Cond.code (sm_yn 86) (sm_cd 86) (sm_ml 86) (sm_rt 86) ∈ sm_gw := sm_mem 666 (by decide +kernel) (by decide +kernel)
theorem sm_k87 : Cond.code (sm_yn 87) (sm_cd 87) (sm_ml 87) (sm_rt 87) ∈ sm_gw := sm_mem 658 (by decide +kernel) (by decide +kernel)
theorem sm_k88 : Cond.code (sm_yn 88) (sm_cd 88) (sm_ml 88) (sm_rt 88) ∈ sm_gw := sm_mem 654 (by decide +kernel) (by decide +kernel)
theorem sm_k89 : Cond.code (sm_yn 89) (sm_cd 89) (sm_ml 89) (sm_rt 89) ∈ sm_gw := sm_mem 708 (by decide +kernel) (by decide +kernel)
theorem sm_k90 : Cond.code (sm_yn 90) (sm_cd 90) (sm_ml 90) (sm_rt 90) ∈ sm_gw := sm_mem 700 (by decide +kernel) (by decide +kernel)
theorem sm_k91 : Cond.code (sm_yn 91) (sm_cd 91) (sm_ml 91) (sm_rt 91) ∈ sm_gw := sm_mem 704 (by decide +kernel) (by decide +kernel)
theorem sm_k92 : Cond.code (sm_yn 92) (sm_cd 92) (sm_ml 92) (sm_rt 92) ∈ sm_gw := sm_mem 690 (by decide +kernel) (by decide +kernel)
theorem sm_k93 : Cond.code (sm_yn 93) (sm_cd 93) (sm_ml 93) (sm_rt 93) ∈ sm_gw := sm_mem 712 (by decide +kernel) (by decide +kernel)
theorem sm_k94 : Cond.code (sm_yn 94) (sm_cd 94) (sm_ml 94) (sm_rt 94) ∈ sm_gw := sm_mem 686 (by decide +kernel) (by decide +kernel)
theorem sm_k95 : Cond.code (sm_yn 95) (sm_cd 95) (sm_ml 95) (sm_rt 95) ∈ sm_gw := sm_mem 678 (by decide +kernel) (by decide +kernel)
theorem sm_k96 : Cond.code (sm_yn 96) (sm_cd 96) (sm_ml 96) (sm_rt 96) ∈ sm_gw := sm_mem 720 (by decide +kernel) (by decide +kernel)
theorem sm_k97 : Cond.code (sm_yn 97) (sm_cd 97) (sm_ml 97) (sm_rt 97) ∈ sm_gw := sm_mem 716 (by decide +kernel) (by decide +kernel)
theorem sm_k98 : Cond.code (sm_yn 98) (sm_cd 98) (sm_ml 98) (sm_rt 98) ∈ sm_gw := sm_mem 724 (by decide +kernel) (by decide +kernel)
theorem sm_k99 : Cond.code (sm_yn 99) (sm_cd 99) (sm_ml 99) (sm_rt 99) ∈ sm_gw := sm_mem 728 (by decide +kernel) (by decide +kernel)
theorem sm_k100 : Cond.code (sm_yn 100) (sm_cd 100) (sm_ml 100) (sm_rt 100) ∈ sm_gw := sm_mem 674 (by decide +kernel) (by decide +kernel)
theorem sm_k101 : Cond.code (sm_yn 101) (sm_cd 101) (sm_ml 101) (sm_rt 101) ∈ sm_gw := sm_mem 736 (by decide +kernel) (by decide +kernel)
theorem sm_k102 : Cond.code (sm_yn 102) (sm_cd 102) (sm_ml 102) (sm_rt 102) ∈ sm_gw := sm_mem 744 (by decide +kernel) (by decide +kernel)
theorem sm_k103 : Cond.code (sm_yn 103) (sm_cd 103) (sm_ml 103) (sm_rt 103) ∈ sm_gw := sm_mem 650 (by decide +kernel) (by decide +kernel)
theorem sm_k104 : Cond.code (sm_yn 104) (sm_cd 104) (sm_ml 104) (sm_rt 104) ∈ sm_gw := sm_mem 732 (by decide +kernel) (by decide +kernel)
theorem sm_k105 : Cond.code (sm_yn 105) (sm_cd 105) (sm_ml 105) (sm_rt 105) ∈ sm_gw := sm_mem 740 (by decide +kernel) (by decide +kernel)
theorem sm_k106 : Cond.code (sm_yn 106) (sm_cd 106) (sm_ml 106) (sm_rt 106) ∈ sm_gw := sm_mem 748 (by decide +kernel) (by decide +kernel)
theorem sm_k107 : Cond.code (sm_yn 107) (sm_cd 107) (sm_ml 107) (sm_rt 107) ∈ sm_gw := sm_mem 752 (by decide +kernel) (by decide +kernel)
theorem sm_k108 : Cond.code (sm_yn 108) (sm_cd 108) (sm_ml 108) (sm_rt 108) ∈ sm_gw := sm_mem 756 (by decide +kernel) (by decide +kernel)
theorem sm_k109 : Cond.code (sm_yn 109) (sm_cd 109) (sm_ml 109) (sm_rt 109) ∈ sm_gw := sm_mem 764 (by decide +kernel) (by decide +kernel)
theorem sm_k110 : Cond.code (sm_yn 110) (sm_cd 110) (sm_ml 110) (sm_rt 110) ∈ sm_gw := sm_mem 760 (by decide +kernel) (by decide +kernel)
theorem sm_k111 : Cond.code (sm_yn 111) (sm_cd 111) (sm_ml 111) (sm_rt 111) ∈ sm_gw := sm_mem 768 (by decide +kernel) (by decide +kernel)
theorem sm_k112 : Cond.code (sm_yn 112) (sm_cd 112) (sm_ml 112) (sm_rt 112) ∈ sm_gw := sm_mem 772 (by decide +kernel) (by decide +kernel)
theorem sm_k113 : Cond.code (sm_yn 113) (sm_cd 113) (sm_ml 113) (sm_rt 113) ∈ sm_gw := sm_mem 776 (by decide +kernel) (by decide +kernel)
theorem sm_k114 : Cond.code (sm_yn 114) (sm_cd 114) (sm_ml 114) (sm_rt 114) ∈ sm_gw := sm_mem 780 (by decide +kernel) (by decide +kernel)
theorem sm_k115 : Cond.code (sm_yn 115) (sm_cd 115) (sm_ml 115) (sm_rt 115) ∈ sm_gw := sm_mem 522 (by decide +kernel) (by decide +kernel)
theorem sm_code_in : ∀ z, z < sm_nm → Cond.code (sm_yn z) (sm_cd z) (sm_ml z) (sm_rt z) ∈ sm_gw
  | 0, _ => sm_k0
  | 1, _ => sm_k1
  | 2, _ => sm_k2
  | 3, _ => sm_k3
  | 4, _ => sm_k4
  | 5, _ => sm_k5
  | 6, _ => sm_k6
  | 7, _ => sm_k7
  | 8, _ => sm_k8
  | 9, _ => sm_k9
  | 10, _ => sm_k10
  | 11, _ => sm_k11
  | 12, _ => sm_k12
  | 13, _ => sm_k13
  | 14, _ => sm_k14
  | 15, _ => sm_k15
  | 16, _ => sm_k16
  | 17, _ => sm_k17
  | 18, _ => sm_k18
  | 19, _ => sm_k19
  | 20, _ => sm_k20
  | 21, _ => sm_k21
  | 22, _ => sm_k22
  | 23, _ => sm_k23
  | 24, _ => sm_k24
  | 25, _ => sm_k25
  | 26, _ => sm_k26
  | 27, _ => sm_k27
  | 28, _ => sm_k28
  | 29, _ => sm_k29
  | 30, _ => sm_k30
  | 31, _ => sm_k31
  | 32, _ => sm_k32
  | 33, _ => sm_k33
  | 34, _ => sm_k34
  | 35, _ => sm_k35
  | 36, _ => sm_k36
  | 37, _ => sm_k37
  | 38, _ => sm_k38
  | 39, _ => sm_k39
  | 40, _ => sm_k40
  | 41, _ => sm_k41
  | 42, _ => sm_k42
  | 43, _ => sm_k43
  | 44, _ => sm_k44
  | 45, _ => sm_k45
  | 46, _ => sm_k46
  | 47, _ => sm_k47
  | 48, _ => sm_k48
  | 49, _ => sm_k49
  | 50, _ => sm_k50
  | 51, _ => sm_k51
  | 52, _ => sm_k52
  | 53, _ => sm_k53
  | 54, _ => sm_k54
  | 55, _ => sm_k55
  | 56, _ => sm_k56
  | 57, _ => sm_k57
  | 58, _ => sm_k58
  | 59, _ => sm_k59
  | 60, _ => sm_k60
  | 61, _ => sm_k61
  | 62, _ => sm_k62
  | 63, _ => sm_k63
  | 64, _ => sm_k64
  | 65, _ => sm_k65
  | 66, _ => sm_k66
  | 67, _ => sm_k67
  | 68, _ => sm_k68
  | 69, _ => sm_k69
  | 70, _ => sm_k70
  | 71, _ => sm_k71
  | 72, _ => sm_k72
  | 73, _ => sm_k73
  | 74, _ => sm_k74
  | 75, _ => sm_k75
  | 76, _ => sm_k76
  | 77, _ => sm_k77
  | 78, _ => sm_k78
  | 79, _ => sm_k79
  | 80, _ => sm_k80
  | 81, _ => sm_k81
  | 82, _ => sm_k82
  | 83, _ => sm_k83
  | 84, _ => sm_k84
  | 85, _ => sm_k85
  | 86, _ => sm_k86
  | 87, _ => sm_k87
  | 88, _ => sm_k88
  | 89, _ => sm_k89
  | 90, _ => sm_k90
  | 91, _ => sm_k91
  | 92, _ => sm_k92
  | 93, _ => sm_k93
  | 94, _ => sm_k94
  | 95, _ => sm_k95
  | 96, _ => sm_k96
  | 97, _ => sm_k97
  | 98, _ => sm_k98
  | 99, _ => sm_k99
  | 100, _ => sm_k100
  | 101, _ => sm_k101
  | 102, _ => sm_k102
  | 103, _ => sm_k103
  | 104, _ => sm_k104
  | 105, _ => sm_k105
  | 106, _ => sm_k106
  | 107, _ => sm_k107
  | 108, _ => sm_k108
  | 109, _ => sm_k109
  | 110, _ => sm_k110
  | 111, _ => sm_k111
  | 112, _ => sm_k112
  | 113, _ => sm_k113
  | 114, _ => sm_k114
  | 115, _ => sm_k115
  | z + 116, h => absurd h (by show ¬ z + 116 < 116; omega)
theorem sm_mf : ∀ z, z < sm_nm → (sm_yn z).cls = sm_Rn (sm_cy z) ∧ ((sm_yn z).cls ≠ "java/lang/invoke/MethodHandle" ∧ (sm_yn z).cls ≠ "java/lang/invoke/VarHandle") ∧ plainName (sm_yn z).cls = true ∧ sm_ml z ≤ 21 ∧ sm_na z ≤ sm_ml z ∧ (parseMethodDescriptor (sm_yn z).desc).map (fun d => d.parameters.length) = some (sm_na z - (if sm_sta z then 0 else 1)) ∧ (sm_sta z = false → 0 < sm_na z) := by decide +kernel
theorem sm_in0 : Cond.initialized (sm_Rn 0) ∈ sm_gw := sm_mem 5 (by decide +kernel) (by decide +kernel)
theorem sm_in1 : Cond.initialized (sm_Rn 1) ∈ sm_gw := sm_mem 3 (by decide +kernel) (by decide +kernel)
theorem sm_in2 : Cond.initialized (sm_Rn 2) ∈ sm_gw := sm_mem 4 (by decide +kernel) (by decide +kernel)
theorem sm_in3 : Cond.initialized (sm_Rn 3) ∈ sm_gw := sm_mem 2 (by decide +kernel) (by decide +kernel)
theorem sm_in4 : Cond.initialized (sm_Rn 4) ∈ sm_gw := sm_mem 1 (by decide +kernel) (by decide +kernel)
theorem sm_in5 : Cond.initialized (sm_Rn 5) ∈ sm_gw := sm_mem 11 (by decide +kernel) (by decide +kernel)
theorem sm_in6 : Cond.initialized (sm_Rn 6) ∈ sm_gw := sm_mem 13 (by decide +kernel) (by decide +kernel)
theorem sm_i0 : Cond.instanceMethod (sm_yn 0) ∈ sm_gw := sm_mem 384 (by decide +kernel) (by decide +kernel)
theorem sm_e0 : Cond.selects (sm_Rn (sm_cy 0)) (sm_yn 0) (sm_yn 0) ∈ sm_gw := sm_mem 385 (by decide +kernel) (by decide +kernel)
theorem sm_i1 : Cond.instanceMethod (sm_yn 1) ∈ sm_gw := sm_mem 437 (by decide +kernel) (by decide +kernel)
theorem sm_e1 : Cond.selects (sm_Rn (sm_cy 1)) (sm_yn 1) (sm_yn 1) ∈ sm_gw := sm_mem 438 (by decide +kernel) (by decide +kernel)
theorem sm_i2 : Cond.instanceMethod (sm_yn 2) ∈ sm_gw := sm_mem 433 (by decide +kernel) (by decide +kernel)
theorem sm_e2 : Cond.selects (sm_Rn (sm_cy 2)) (sm_yn 2) (sm_yn 2) ∈ sm_gw := sm_mem 434 (by decide +kernel) (by decide +kernel)
theorem sm_i3 : Cond.instanceMethod (sm_yn 3) ∈ sm_gw := sm_mem 365 (by decide +kernel) (by decide +kernel)
theorem sm_e3 : Cond.selects (sm_Rn (sm_cy 3)) (sm_yn 3) (sm_yn 3) ∈ sm_gw := sm_mem 366 (by decide +kernel) (by decide +kernel)
theorem sm_i4 : Cond.instanceMethod (sm_yn 4) ∈ sm_gw := sm_mem 410 (by decide +kernel) (by decide +kernel)
theorem sm_e4 : Cond.selects (sm_Rn (sm_cy 4)) (sm_yn 4) (sm_yn 4) ∈ sm_gw := sm_mem 411 (by decide +kernel) (by decide +kernel)
theorem sm_i5 : Cond.instanceMethod (sm_yn 5) ∈ sm_gw := sm_mem 501 (by decide +kernel) (by decide +kernel)
theorem sm_e5 : Cond.selects (sm_Rn (sm_cy 5)) (sm_yn 5) (sm_yn 5) ∈ sm_gw := sm_mem 502 (by decide +kernel) (by decide +kernel)
theorem sm_i6 : Cond.instanceMethod (sm_yn 6) ∈ sm_gw := sm_mem 505 (by decide +kernel) (by decide +kernel)
theorem sm_e6 : Cond.selects (sm_Rn (sm_cy 6)) (sm_yn 6) (sm_yn 6) ∈ sm_gw := sm_mem 506 (by decide +kernel) (by decide +kernel)
theorem sm_i7 : Cond.instanceMethod (sm_yn 7) ∈ sm_gw := sm_mem 509 (by decide +kernel) (by decide +kernel)
theorem sm_e7 : Cond.selects (sm_Rn (sm_cy 7)) (sm_yn 7) (sm_yn 7) ∈ sm_gw := sm_mem 510 (by decide +kernel) (by decide +kernel)
theorem sm_i8 : Cond.instanceMethod (sm_yn 8) ∈ sm_gw := sm_mem 450 (by decide +kernel) (by decide +kernel)
theorem sm_e8 : Cond.selects (sm_Rn (sm_cy 8)) (sm_yn 8) (sm_yn 8) ∈ sm_gw := sm_mem 451 (by decide +kernel) (by decide +kernel)
theorem sm_i9 : Cond.instanceMethod (sm_yn 9) ∈ sm_gw := sm_mem 240 (by decide +kernel) (by decide +kernel)
theorem sm_e9 : Cond.selects (sm_Rn (sm_cy 9)) (sm_yn 9) (sm_yn 9) ∈ sm_gw := sm_mem 241 (by decide +kernel) (by decide +kernel)
theorem sm_i10 : Cond.instanceMethod (sm_yn 10) ∈ sm_gw := sm_mem 264 (by decide +kernel) (by decide +kernel)
theorem sm_e10 : Cond.selects (sm_Rn (sm_cy 10)) (sm_yn 10) (sm_yn 10) ∈ sm_gw := sm_mem 265 (by decide +kernel) (by decide +kernel)
theorem sm_i11 : Cond.instanceMethod (sm_yn 11) ∈ sm_gw := sm_mem 268 (by decide +kernel) (by decide +kernel)
theorem sm_e11 : Cond.selects (sm_Rn (sm_cy 11)) (sm_yn 11) (sm_yn 11) ∈ sm_gw := sm_mem 269 (by decide +kernel) (by decide +kernel)
theorem sm_i12 : Cond.instanceMethod (sm_yn 12) ∈ sm_gw := sm_mem 272 (by decide +kernel) (by decide +kernel)
theorem sm_e12 : Cond.selects (sm_Rn (sm_cy 12)) (sm_yn 12) (sm_yn 12) ∈ sm_gw := sm_mem 273 (by decide +kernel) (by decide +kernel)
theorem sm_i13 : Cond.instanceMethod (sm_yn 13) ∈ sm_gw := sm_mem 276 (by decide +kernel) (by decide +kernel)
theorem sm_e13 : Cond.selects (sm_Rn (sm_cy 13)) (sm_yn 13) (sm_yn 13) ∈ sm_gw := sm_mem 277 (by decide +kernel) (by decide +kernel)
theorem sm_i14 : Cond.instanceMethod (sm_yn 14) ∈ sm_gw := sm_mem 280 (by decide +kernel) (by decide +kernel)
theorem sm_e14 : Cond.selects (sm_Rn (sm_cy 14)) (sm_yn 14) (sm_yn 14) ∈ sm_gw := sm_mem 281 (by decide +kernel) (by decide +kernel)
theorem sm_i15 : Cond.instanceMethod (sm_yn 15) ∈ sm_gw := sm_mem 284 (by decide +kernel) (by decide +kernel)
theorem sm_e15 : Cond.selects (sm_Rn (sm_cy 15)) (sm_yn 15) (sm_yn 15) ∈ sm_gw := sm_mem 285 (by decide +kernel) (by decide +kernel)
theorem sm_i16 : Cond.instanceMethod (sm_yn 16) ∈ sm_gw := sm_mem 345 (by decide +kernel) (by decide +kernel)
theorem sm_e16 : Cond.selects (sm_Rn (sm_cy 16)) (sm_yn 16) (sm_yn 16) ∈ sm_gw := sm_mem 346 (by decide +kernel) (by decide +kernel)
theorem sm_i17 : Cond.instanceMethod (sm_yn 17) ∈ sm_gw := sm_mem 296 (by decide +kernel) (by decide +kernel)
theorem sm_e17 : Cond.selects (sm_Rn (sm_cy 17)) (sm_yn 17) (sm_yn 17) ∈ sm_gw := sm_mem 297 (by decide +kernel) (by decide +kernel)
theorem sm_i18 : Cond.instanceMethod (sm_yn 18) ∈ sm_gw := sm_mem 420 (by decide +kernel) (by decide +kernel)
theorem sm_e18 : Cond.selects (sm_Rn (sm_cy 18)) (sm_yn 18) (sm_yn 18) ∈ sm_gw := sm_mem 421 (by decide +kernel) (by decide +kernel)
theorem sm_i19 : Cond.instanceMethod (sm_yn 19) ∈ sm_gw := sm_mem 292 (by decide +kernel) (by decide +kernel)
theorem sm_e19 : Cond.selects (sm_Rn (sm_cy 19)) (sm_yn 19) (sm_yn 19) ∈ sm_gw := sm_mem 293 (by decide +kernel) (by decide +kernel)
theorem sm_i20 : Cond.instanceMethod (sm_yn 20) ∈ sm_gw := sm_mem 377 (by decide +kernel) (by decide +kernel)
theorem sm_e20 : Cond.selects (sm_Rn (sm_cy 20)) (sm_yn 20) (sm_yn 20) ∈ sm_gw := sm_mem 378 (by decide +kernel) (by decide +kernel)
theorem sm_i21 : Cond.instanceMethod (sm_yn 21) ∈ sm_gw := sm_mem 361 (by decide +kernel) (by decide +kernel)
theorem sm_e21 : Cond.selects (sm_Rn (sm_cy 21)) (sm_yn 21) (sm_yn 21) ∈ sm_gw := sm_mem 362 (by decide +kernel) (by decide +kernel)
theorem sm_i22 : Cond.instanceMethod (sm_yn 22) ∈ sm_gw := sm_mem 357 (by decide +kernel) (by decide +kernel)
theorem sm_e22 : Cond.selects (sm_Rn (sm_cy 22)) (sm_yn 22) (sm_yn 22) ∈ sm_gw := sm_mem 358 (by decide +kernel) (by decide +kernel)
theorem sm_i23 : Cond.instanceMethod (sm_yn 23) ∈ sm_gw := sm_mem 454 (by decide +kernel) (by decide +kernel)
theorem sm_e23 : Cond.selects (sm_Rn (sm_cy 23)) (sm_yn 23) (sm_yn 23) ∈ sm_gw := sm_mem 455 (by decide +kernel) (by decide +kernel)
theorem sm_i24 : Cond.instanceMethod (sm_yn 24) ∈ sm_gw := sm_mem 517 (by decide +kernel) (by decide +kernel)
theorem sm_e24 : Cond.selects (sm_Rn (sm_cy 24)) (sm_yn 24) (sm_yn 24) ∈ sm_gw := sm_mem 518 (by decide +kernel) (by decide +kernel)
theorem sm_i25 : Cond.instanceMethod (sm_yn 25) ∈ sm_gw := sm_mem 393 (by decide +kernel) (by decide +kernel)
theorem sm_e25 : Cond.selects (sm_Rn (sm_cy 25)) (sm_yn 25) (sm_yn 25) ∈ sm_gw := sm_mem 394 (by decide +kernel) (by decide +kernel)
theorem sm_i26 : Cond.instanceMethod (sm_yn 26) ∈ sm_gw := sm_mem 397 (by decide +kernel) (by decide +kernel)
theorem sm_e26 : Cond.selects (sm_Rn (sm_cy 26)) (sm_yn 26) (sm_yn 26) ∈ sm_gw := sm_mem 398 (by decide +kernel) (by decide +kernel)
theorem sm_i27 : Cond.instanceMethod (sm_yn 27) ∈ sm_gw := sm_mem 402 (by decide +kernel) (by decide +kernel)
theorem sm_e27 : Cond.selects (sm_Rn (sm_cy 27)) (sm_yn 27) (sm_yn 27) ∈ sm_gw := sm_mem 403 (by decide +kernel) (by decide +kernel)
theorem sm_i28 : Cond.instanceMethod (sm_yn 28) ∈ sm_gw := sm_mem 442 (by decide +kernel) (by decide +kernel)
theorem sm_e28 : Cond.selects (sm_Rn (sm_cy 28)) (sm_yn 28) (sm_yn 28) ∈ sm_gw := sm_mem 443 (by decide +kernel) (by decide +kernel)
theorem sm_i29 : Cond.instanceMethod (sm_yn 29) ∈ sm_gw := sm_mem 424 (by decide +kernel) (by decide +kernel)
theorem sm_e29 : Cond.selects (sm_Rn (sm_cy 29)) (sm_yn 29) (sm_yn 29) ∈ sm_gw := sm_mem 425 (by decide +kernel) (by decide +kernel)
theorem sm_i30 : Cond.instanceMethod (sm_yn 30) ∈ sm_gw := sm_mem 406 (by decide +kernel) (by decide +kernel)
theorem sm_e30 : Cond.selects (sm_Rn (sm_cy 30)) (sm_yn 30) (sm_yn 30) ∈ sm_gw := sm_mem 407 (by decide +kernel) (by decide +kernel)
theorem sm_i31 : Cond.instanceMethod (sm_yn 31) ∈ sm_gw := sm_mem 429 (by decide +kernel) (by decide +kernel)
theorem sm_e31 : Cond.selects (sm_Rn (sm_cy 31)) (sm_yn 31) (sm_yn 31) ∈ sm_gw := sm_mem 430 (by decide +kernel) (by decide +kernel)
theorem sm_i32 : Cond.instanceMethod (sm_yn 32) ∈ sm_gw := sm_mem 458 (by decide +kernel) (by decide +kernel)
theorem sm_e32 : Cond.selects (sm_Rn (sm_cy 32)) (sm_yn 32) (sm_yn 32) ∈ sm_gw := sm_mem 459 (by decide +kernel) (by decide +kernel)
theorem sm_i33 : Cond.instanceMethod (sm_yn 33) ∈ sm_gw := sm_mem 462 (by decide +kernel) (by decide +kernel)
theorem sm_e33 : Cond.selects (sm_Rn (sm_cy 33)) (sm_yn 33) (sm_yn 33) ∈ sm_gw := sm_mem 463 (by decide +kernel) (by decide +kernel)
theorem sm_i34 : Cond.instanceMethod (sm_yn 34) ∈ sm_gw := sm_mem 232 (by decide +kernel) (by decide +kernel)
theorem sm_e34 : Cond.selects (sm_Rn (sm_cy 34)) (sm_yn 34) (sm_yn 34) ∈ sm_gw := sm_mem 233 (by decide +kernel) (by decide +kernel)
theorem sm_i35 : Cond.instanceMethod (sm_yn 35) ∈ sm_gw := sm_mem 236 (by decide +kernel) (by decide +kernel)
theorem sm_e35 : Cond.selects (sm_Rn (sm_cy 35)) (sm_yn 35) (sm_yn 35) ∈ sm_gw := sm_mem 237 (by decide +kernel) (by decide +kernel)
theorem sm_i36 : Cond.instanceMethod (sm_yn 36) ∈ sm_gw := sm_mem 244 (by decide +kernel) (by decide +kernel)
theorem sm_e36 : Cond.selects (sm_Rn (sm_cy 36)) (sm_yn 36) (sm_yn 36) ∈ sm_gw := sm_mem 245 (by decide +kernel) (by decide +kernel)
theorem sm_i37 : Cond.instanceMethod (sm_yn 37) ∈ sm_gw := sm_mem 252 (by decide +kernel) (by decide +kernel)
theorem sm_e37 : Cond.selects (sm_Rn (sm_cy 37)) (sm_yn 37) (sm_yn 37) ∈ sm_gw := sm_mem 253 (by decide +kernel) (by decide +kernel)
theorem sm_i38 : Cond.instanceMethod (sm_yn 38) ∈ sm_gw := sm_mem 256 (by decide +kernel) (by decide +kernel)
theorem sm_e38 : Cond.selects (sm_Rn (sm_cy 38)) (sm_yn 38) (sm_yn 38) ∈ sm_gw := sm_mem 257 (by decide +kernel) (by decide +kernel)
theorem sm_i39 : Cond.instanceMethod (sm_yn 39) ∈ sm_gw := sm_mem 260 (by decide +kernel) (by decide +kernel)
theorem sm_e39 : Cond.selects (sm_Rn (sm_cy 39)) (sm_yn 39) (sm_yn 39) ∈ sm_gw := sm_mem 261 (by decide +kernel) (by decide +kernel)
theorem sm_i40 : Cond.instanceMethod (sm_yn 40) ∈ sm_gw := sm_mem 248 (by decide +kernel) (by decide +kernel)
theorem sm_e40 : Cond.selects (sm_Rn (sm_cy 40)) (sm_yn 40) (sm_yn 40) ∈ sm_gw := sm_mem 249 (by decide +kernel) (by decide +kernel)
theorem sm_i41 : Cond.instanceMethod (sm_yn 41) ∈ sm_gw := sm_mem 329 (by decide +kernel) (by decide +kernel)
theorem sm_e41 : Cond.selects (sm_Rn (sm_cy 41)) (sm_yn 41) (sm_yn 41) ∈ sm_gw := sm_mem 330 (by decide +kernel) (by decide +kernel)
theorem sm_i42 : Cond.instanceMethod (sm_yn 42) ∈ sm_gw := sm_mem 333 (by decide +kernel) (by decide +kernel)
theorem sm_e42 : Cond.selects (sm_Rn (sm_cy 42)) (sm_yn 42) (sm_yn 42) ∈ sm_gw := sm_mem 334 (by decide +kernel) (by decide +kernel)
theorem sm_i43 : Cond.instanceMethod (sm_yn 43) ∈ sm_gw := sm_mem 337 (by decide +kernel) (by decide +kernel)
theorem sm_e43 : Cond.selects (sm_Rn (sm_cy 43)) (sm_yn 43) (sm_yn 43) ∈ sm_gw := sm_mem 338 (by decide +kernel) (by decide +kernel)
theorem sm_i44 : Cond.instanceMethod (sm_yn 44) ∈ sm_gw := sm_mem 341 (by decide +kernel) (by decide +kernel)
theorem sm_e44 : Cond.selects (sm_Rn (sm_cy 44)) (sm_yn 44) (sm_yn 44) ∈ sm_gw := sm_mem 342 (by decide +kernel) (by decide +kernel)
theorem sm_i45 : Cond.instanceMethod (sm_yn 45) ∈ sm_gw := sm_mem 349 (by decide +kernel) (by decide +kernel)
theorem sm_e45 : Cond.selects (sm_Rn (sm_cy 45)) (sm_yn 45) (sm_yn 45) ∈ sm_gw := sm_mem 350 (by decide +kernel) (by decide +kernel)
theorem sm_i46 : Cond.instanceMethod (sm_yn 46) ∈ sm_gw := sm_mem 466 (by decide +kernel) (by decide +kernel)
theorem sm_e46 : Cond.selects (sm_Rn (sm_cy 46)) (sm_yn 46) (sm_yn 46) ∈ sm_gw := sm_mem 467 (by decide +kernel) (by decide +kernel)
theorem sm_i47 : Cond.instanceMethod (sm_yn 47) ∈ sm_gw := sm_mem 474 (by decide +kernel) (by decide +kernel)
theorem sm_e47 : Cond.selects (sm_Rn (sm_cy 47)) (sm_yn 47) (sm_yn 47) ∈ sm_gw := sm_mem 475 (by decide +kernel) (by decide +kernel)
theorem sm_i48 : Cond.instanceMethod (sm_yn 48) ∈ sm_gw := sm_mem 482 (by decide +kernel) (by decide +kernel)
theorem sm_e48 : Cond.selects (sm_Rn (sm_cy 48)) (sm_yn 48) (sm_yn 48) ∈ sm_gw := sm_mem 483 (by decide +kernel) (by decide +kernel)
theorem sm_i49 : Cond.instanceMethod (sm_yn 49) ∈ sm_gw := sm_mem 486 (by decide +kernel) (by decide +kernel)
theorem sm_e49 : Cond.selects (sm_Rn (sm_cy 49)) (sm_yn 49) (sm_yn 49) ∈ sm_gw := sm_mem 487 (by decide +kernel) (by decide +kernel)
theorem sm_i50 : Cond.instanceMethod (sm_yn 50) ∈ sm_gw := sm_mem 490 (by decide +kernel) (by decide +kernel)
theorem sm_e50 : Cond.selects (sm_Rn (sm_cy 50)) (sm_yn 50) (sm_yn 50) ∈ sm_gw := sm_mem 491 (by decide +kernel) (by decide +kernel)
theorem sm_i51 : Cond.instanceMethod (sm_yn 51) ∈ sm_gw := sm_mem 497 (by decide +kernel) (by decide +kernel)
theorem sm_e51 : Cond.selects (sm_Rn (sm_cy 51)) (sm_yn 51) (sm_yn 51) ∈ sm_gw := sm_mem 498 (by decide +kernel) (by decide +kernel)
theorem sm_i52 : Cond.instanceMethod (sm_yn 52) ∈ sm_gw := sm_mem 513 (by decide +kernel) (by decide +kernel)
theorem sm_e52 : Cond.selects (sm_Rn (sm_cy 52)) (sm_yn 52) (sm_yn 52) ∈ sm_gw := sm_mem 514 (by decide +kernel) (by decide +kernel)
theorem sm_i53 : Cond.instanceMethod (sm_yn 53) ∈ sm_gw := sm_mem 527 (by decide +kernel) (by decide +kernel)
theorem sm_e53 : Cond.selects (sm_Rn (sm_cy 53)) (sm_yn 53) (sm_yn 53) ∈ sm_gw := sm_mem 528 (by decide +kernel) (by decide +kernel)
theorem sm_i54 : Cond.instanceMethod (sm_yn 54) ∈ sm_gw := sm_mem 532 (by decide +kernel) (by decide +kernel)
theorem sm_e54 : Cond.selects (sm_Rn (sm_cy 54)) (sm_yn 54) (sm_yn 54) ∈ sm_gw := sm_mem 533 (by decide +kernel) (by decide +kernel)
theorem sm_i55 : Cond.instanceMethod (sm_yn 55) ∈ sm_gw := sm_mem 537 (by decide +kernel) (by decide +kernel)
theorem sm_e55 : Cond.selects (sm_Rn (sm_cy 55)) (sm_yn 55) (sm_yn 55) ∈ sm_gw := sm_mem 538 (by decide +kernel) (by decide +kernel)
theorem sm_i56 : Cond.instanceMethod (sm_yn 56) ∈ sm_gw := sm_mem 471 (by decide +kernel) (by decide +kernel)
theorem sm_e56 : Cond.selects (sm_Rn (sm_cy 56)) (sm_yn 56) (sm_yn 56) ∈ sm_gw := sm_memP 5 (by decide +kernel) (by decide +kernel)
theorem sm_i57 : Cond.instanceMethod (sm_yn 57) ∈ sm_gw := sm_mem 479 (by decide +kernel) (by decide +kernel)
theorem sm_e57 : Cond.selects (sm_Rn (sm_cy 57)) (sm_yn 57) (sm_yn 57) ∈ sm_gw := sm_memP 6 (by decide +kernel) (by decide +kernel)
theorem sm_i58 : Cond.instanceMethod (sm_yn 58) ∈ sm_gw := sm_mem 354 (by decide +kernel) (by decide +kernel)
theorem sm_e58 : Cond.selects (sm_Rn (sm_cy 58)) (sm_yn 58) (sm_yn 58) ∈ sm_gw := sm_memP 1 (by decide +kernel) (by decide +kernel)
theorem sm_i59 : Cond.instanceMethod (sm_yn 59) ∈ sm_gw := sm_mem 289 (by decide +kernel) (by decide +kernel)
theorem sm_e59 : Cond.selects (sm_Rn (sm_cy 59)) (sm_yn 59) (sm_yn 59) ∈ sm_gw := sm_memP 0 (by decide +kernel) (by decide +kernel)
theorem sm_i60 : Cond.instanceMethod (sm_yn 60) ∈ sm_gw := sm_mem 370 (by decide +kernel) (by decide +kernel)
theorem sm_e60 : Cond.selects (sm_Rn (sm_cy 60)) (sm_yn 60) (sm_yn 60) ∈ sm_gw := sm_memP 2 (by decide +kernel) (by decide +kernel)
theorem sm_i61 : Cond.instanceMethod (sm_yn 61) ∈ sm_gw := sm_mem 374 (by decide +kernel) (by decide +kernel)
theorem sm_e61 : Cond.selects (sm_Rn (sm_cy 61)) (sm_yn 61) (sm_yn 61) ∈ sm_gw := sm_memP 3 (by decide +kernel) (by decide +kernel)
theorem sm_i62 : Cond.instanceMethod (sm_yn 62) ∈ sm_gw := sm_mem 390 (by decide +kernel) (by decide +kernel)
theorem sm_e62 : Cond.selects (sm_Rn (sm_cy 62)) (sm_yn 62) (sm_yn 62) ∈ sm_gw := sm_memP 4 (by decide +kernel) (by decide +kernel)
theorem sm_s63 : Cond.static (sm_yn 63) ∈ sm_gw := sm_mem 446 (by decide +kernel) (by decide +kernel)
theorem sm_s64 : Cond.static (sm_yn 64) ∈ sm_gw := sm_mem 414 (by decide +kernel) (by decide +kernel)
theorem sm_s65 : Cond.static (sm_yn 65) ∈ sm_gw := sm_mem 601 (by decide +kernel) (by decide +kernel)
theorem sm_s66 : Cond.static (sm_yn 66) ∈ sm_gw := sm_mem 692 (by decide +kernel) (by decide +kernel)
theorem sm_s67 : Cond.static (sm_yn 67) ∈ sm_gw := sm_mem 695 (by decide +kernel) (by decide +kernel)
theorem sm_i68 : Cond.instanceMethod (sm_yn 68) ∈ sm_gw := sm_mem 597 (by decide +kernel) (by decide +kernel)
theorem sm_e68 : Cond.selects (sm_Rn (sm_cy 68)) (sm_yn 68) (sm_yn 68) ∈ sm_gw := sm_mem 598 (by decide +kernel) (by decide +kernel)
theorem sm_i69 : Cond.instanceMethod (sm_yn 69) ∈ sm_gw := sm_mem 604 (by decide +kernel) (by decide +kernel)
theorem sm_e69 : Cond.selects (sm_Rn (sm_cy 69)) (sm_yn 69) (sm_yn 69) ∈ sm_gw := sm_mem 605 (by decide +kernel) (by decide +kernel)
theorem sm_i70 : Cond.instanceMethod (sm_yn 70) ∈ sm_gw := sm_mem 548 (by decide +kernel) (by decide +kernel)
theorem sm_e70 : Cond.selects (sm_Rn (sm_cy 70)) (sm_yn 70) (sm_yn 70) ∈ sm_gw := sm_memP 7 (by decide +kernel) (by decide +kernel)
theorem sm_i71 : Cond.instanceMethod (sm_yn 71) ∈ sm_gw := sm_mem 552 (by decide +kernel) (by decide +kernel)
theorem sm_e71 : Cond.selects (sm_Rn (sm_cy 71)) (sm_yn 71) (sm_yn 71) ∈ sm_gw := sm_memP 8 (by decide +kernel) (by decide +kernel)
theorem sm_i72 : Cond.instanceMethod (sm_yn 72) ∈ sm_gw := sm_mem 629 (by decide +kernel) (by decide +kernel)
theorem sm_e72 : Cond.selects (sm_Rn (sm_cy 72)) (sm_yn 72) (sm_yn 72) ∈ sm_gw := sm_memP 14 (by decide +kernel) (by decide +kernel)
theorem sm_i73 : Cond.instanceMethod (sm_yn 73) ∈ sm_gw := sm_mem 625 (by decide +kernel) (by decide +kernel)
theorem sm_e73 : Cond.selects (sm_Rn (sm_cy 73)) (sm_yn 73) (sm_yn 73) ∈ sm_gw := sm_memP 13 (by decide +kernel) (by decide +kernel)
theorem sm_i74 : Cond.instanceMethod (sm_yn 74) ∈ sm_gw := sm_mem 621 (by decide +kernel) (by decide +kernel)
theorem sm_e74 : Cond.selects (sm_Rn (sm_cy 74)) (sm_yn 74) (sm_yn 74) ∈ sm_gw := sm_memP 12 (by decide +kernel) (by decide +kernel)
theorem sm_i75 : Cond.instanceMethod (sm_yn 75) ∈ sm_gw := sm_mem 637 (by decide +kernel) (by decide +kernel)
theorem sm_e75 : Cond.selects (sm_Rn (sm_cy 75)) (sm_yn 75) (sm_yn 75) ∈ sm_gw := sm_memP 16 (by decide +kernel) (by decide +kernel)
theorem sm_i76 : Cond.instanceMethod (sm_yn 76) ∈ sm_gw := sm_mem 633 (by decide +kernel) (by decide +kernel)
theorem sm_e76 : Cond.selects (sm_Rn (sm_cy 76)) (sm_yn 76) (sm_yn 76) ∈ sm_gw := sm_memP 15 (by decide +kernel) (by decide +kernel)
theorem sm_i77 : Cond.instanceMethod (sm_yn 77) ∈ sm_gw := sm_mem 641 (by decide +kernel) (by decide +kernel)
theorem sm_e77 : Cond.selects (sm_Rn (sm_cy 77)) (sm_yn 77) (sm_yn 77) ∈ sm_gw := sm_memP 17 (by decide +kernel) (by decide +kernel)
theorem sm_i78 : Cond.instanceMethod (sm_yn 78) ∈ sm_gw := sm_mem 617 (by decide +kernel) (by decide +kernel)
theorem sm_e78 : Cond.selects (sm_Rn (sm_cy 78)) (sm_yn 78) (sm_yn 78) ∈ sm_gw := sm_memP 11 (by decide +kernel) (by decide +kernel)
theorem sm_i79 : Cond.instanceMethod (sm_yn 79) ∈ sm_gw := sm_mem 613 (by decide +kernel) (by decide +kernel)
theorem sm_e79 : Cond.selects (sm_Rn (sm_cy 79)) (sm_yn 79) (sm_yn 79) ∈ sm_gw := sm_memP 10 (by decide +kernel) (by decide +kernel)
theorem sm_i80 : Cond.instanceMethod (sm_yn 80) ∈ sm_gw := sm_mem 608 (by decide +kernel) (by decide +kernel)
theorem sm_e80 : Cond.selects (sm_Rn (sm_cy 80)) (sm_yn 80) (sm_yn 80) ∈ sm_gw := sm_mem 609 (by decide +kernel) (by decide +kernel)
theorem sm_i81 : Cond.instanceMethod (sm_yn 81) ∈ sm_gw := sm_mem 644 (by decide +kernel) (by decide +kernel)
theorem sm_e81 : Cond.selects (sm_Rn (sm_cy 81)) (sm_yn 81) (sm_yn 81) ∈ sm_gw := sm_mem 645 (by decide +kernel) (by decide +kernel)
theorem sm_i82 : Cond.instanceMethod (sm_yn 82) ∈ sm_gw := sm_mem 556 (by decide +kernel) (by decide +kernel)
theorem sm_e82 : Cond.selects (sm_Rn (sm_cy 82)) (sm_yn 82) (sm_yn 82) ∈ sm_gw := sm_memP 9 (by decide +kernel) (by decide +kernel)
theorem sm_i83 : Cond.instanceMethod (sm_yn 83) ∈ sm_gw := sm_mem 661 (by decide +kernel) (by decide +kernel)
theorem sm_e83 : Cond.selects (sm_Rn (sm_cy 83)) (sm_yn 83) (sm_yn 83) ∈ sm_gw := sm_memP 20 (by decide +kernel) (by decide +kernel)
theorem sm_i84 : Cond.instanceMethod (sm_yn 84) ∈ sm_gw := sm_mem 681 (by decide +kernel) (by decide +kernel)
theorem sm_e84 : Cond.selects (sm_Rn (sm_cy 84)) (sm_yn 84) (sm_yn 84) ∈ sm_gw := sm_memP 25 (by decide +kernel) (by decide +kernel)
theorem sm_i85 : Cond.instanceMethod (sm_yn 85) ∈ sm_gw := sm_mem 669 (by decide +kernel) (by decide +kernel)
theorem sm_e85 : Cond.selects (sm_Rn (sm_cy 85)) (sm_yn 85) (sm_yn 85) ∈ sm_gw := sm_memP 22 (by decide +kernel) (by decide +kernel)
theorem sm_i86 : Cond.instanceMethod (sm_yn 86) ∈ sm_gw := sm_mem 665 (by decide +kernel) (by decide +kernel)
theorem sm_e86 : Cond.selects (sm_Rn (sm_cy 86)) (sm_yn 86) (sm_yn 86) ∈ sm_gw := sm_memP 21 (by decide +kernel) (by decide +kernel)
theorem sm_i87 : Cond.instanceMethod (sm_yn 87) ∈ sm_gw := sm_mem 657 (by decide +kernel) (by decide +kernel)
theorem sm_e87 : Cond.selects (sm_Rn (sm_cy 87)) (sm_yn 87) (sm_yn 87) ∈ sm_gw := sm_memP 19 (by decide +kernel) (by decide +kernel)
theorem sm_i88 : Cond.instanceMethod (sm_yn 88) ∈ sm_gw := sm_mem 653 (by decide +kernel) (by decide +kernel)
theorem sm_e88 : Cond.selects (sm_Rn (sm_cy 88)) (sm_yn 88) (sm_yn 88) ∈ sm_gw := sm_memP 18 (by decide +kernel) (by decide +kernel)
theorem sm_i89 : Cond.instanceMethod (sm_yn 89) ∈ sm_gw := sm_mem 707 (by decide +kernel) (by decide +kernel)
theorem sm_e89 : Cond.selects (sm_Rn (sm_cy 89)) (sm_yn 89) (sm_yn 89) ∈ sm_gw := sm_memP 30 (by decide +kernel) (by decide +kernel)
theorem sm_i90 : Cond.instanceMethod (sm_yn 90) ∈ sm_gw := sm_mem 699 (by decide +kernel) (by decide +kernel)
theorem sm_e90 : Cond.selects (sm_Rn (sm_cy 90)) (sm_yn 90) (sm_yn 90) ∈ sm_gw := sm_memP 28 (by decide +kernel) (by decide +kernel)
theorem sm_i91 : Cond.instanceMethod (sm_yn 91) ∈ sm_gw := sm_mem 703 (by decide +kernel) (by decide +kernel)
theorem sm_e91 : Cond.selects (sm_Rn (sm_cy 91)) (sm_yn 91) (sm_yn 91) ∈ sm_gw := sm_memP 29 (by decide +kernel) (by decide +kernel)
theorem sm_i92 : Cond.instanceMethod (sm_yn 92) ∈ sm_gw := sm_mem 689 (by decide +kernel) (by decide +kernel)
theorem sm_e92 : Cond.selects (sm_Rn (sm_cy 92)) (sm_yn 92) (sm_yn 92) ∈ sm_gw := sm_memP 27 (by decide +kernel) (by decide +kernel)
theorem sm_i93 : Cond.instanceMethod (sm_yn 93) ∈ sm_gw := sm_mem 711 (by decide +kernel) (by decide +kernel)
theorem sm_e93 : Cond.selects (sm_Rn (sm_cy 93)) (sm_yn 93) (sm_yn 93) ∈ sm_gw := sm_memP 31 (by decide +kernel) (by decide +kernel)
theorem sm_i94 : Cond.instanceMethod (sm_yn 94) ∈ sm_gw := sm_mem 685 (by decide +kernel) (by decide +kernel)
theorem sm_e94 : Cond.selects (sm_Rn (sm_cy 94)) (sm_yn 94) (sm_yn 94) ∈ sm_gw := sm_memP 26 (by decide +kernel) (by decide +kernel)
theorem sm_i95 : Cond.instanceMethod (sm_yn 95) ∈ sm_gw := sm_mem 677 (by decide +kernel) (by decide +kernel)
theorem sm_e95 : Cond.selects (sm_Rn (sm_cy 95)) (sm_yn 95) (sm_yn 95) ∈ sm_gw := sm_memP 24 (by decide +kernel) (by decide +kernel)
theorem sm_i96 : Cond.instanceMethod (sm_yn 96) ∈ sm_gw := sm_mem 719 (by decide +kernel) (by decide +kernel)
theorem sm_e96 : Cond.selects (sm_Rn (sm_cy 96)) (sm_yn 96) (sm_yn 96) ∈ sm_gw := sm_memP 33 (by decide +kernel) (by decide +kernel)
theorem sm_i97 : Cond.instanceMethod (sm_yn 97) ∈ sm_gw := sm_mem 715 (by decide +kernel) (by decide +kernel)
theorem sm_e97 : Cond.selects (sm_Rn (sm_cy 97)) (sm_yn 97) (sm_yn 97) ∈ sm_gw := sm_memP 32 (by decide +kernel) (by decide +kernel)
theorem sm_i98 : Cond.instanceMethod (sm_yn 98) ∈ sm_gw := sm_mem 723 (by decide +kernel) (by decide +kernel)
theorem sm_e98 : Cond.selects (sm_Rn (sm_cy 98)) (sm_yn 98) (sm_yn 98) ∈ sm_gw := sm_memP 34 (by decide +kernel) (by decide +kernel)
theorem sm_i99 : Cond.instanceMethod (sm_yn 99) ∈ sm_gw := sm_mem 727 (by decide +kernel) (by decide +kernel)
theorem sm_e99 : Cond.selects (sm_Rn (sm_cy 99)) (sm_yn 99) (sm_yn 99) ∈ sm_gw := sm_memP 35 (by decide +kernel) (by decide +kernel)
theorem sm_i100 : Cond.instanceMethod (sm_yn 100) ∈ sm_gw := sm_mem 673 (by decide +kernel) (by decide +kernel)
theorem sm_e100 : Cond.selects (sm_Rn (sm_cy 100)) (sm_yn 100) (sm_yn 100) ∈ sm_gw := sm_memP 23 (by decide +kernel) (by decide +kernel)
theorem sm_i101 : Cond.instanceMethod (sm_yn 101) ∈ sm_gw := sm_mem 735 (by decide +kernel) (by decide +kernel)
theorem sm_e101 : Cond.selects (sm_Rn (sm_cy 101)) (sm_yn 101) (sm_yn 101) ∈ sm_gw := sm_memP 36 (by decide +kernel) (by decide +kernel)
theorem sm_i102 : Cond.instanceMethod (sm_yn 102) ∈ sm_gw := sm_mem 743 (by decide +kernel) (by decide +kernel)
theorem sm_e102 : Cond.selects (sm_Rn (sm_cy 102)) (sm_yn 102) (sm_yn 102) ∈ sm_gw := sm_memP 37 (by decide +kernel) (by decide +kernel)
theorem sm_i103 : Cond.instanceMethod (sm_yn 103) ∈ sm_gw := sm_mem 648 (by decide +kernel) (by decide +kernel)
theorem sm_e103 : Cond.selects (sm_Rn (sm_cy 103)) (sm_yn 103) (sm_yn 103) ∈ sm_gw := sm_mem 649 (by decide +kernel) (by decide +kernel)
theorem sm_i104 : Cond.instanceMethod (sm_yn 104) ∈ sm_gw := sm_mem 730 (by decide +kernel) (by decide +kernel)
theorem sm_e104 : Cond.selects (sm_Rn (sm_cy 104)) (sm_yn 104) (sm_yn 104) ∈ sm_gw := sm_mem 731 (by decide +kernel) (by decide +kernel)
theorem sm_i105 : Cond.instanceMethod (sm_yn 105) ∈ sm_gw := sm_mem 738 (by decide +kernel) (by decide +kernel)
theorem sm_e105 : Cond.selects (sm_Rn (sm_cy 105)) (sm_yn 105) (sm_yn 105) ∈ sm_gw := sm_mem 739 (by decide +kernel) (by decide +kernel)
theorem sm_i106 : Cond.instanceMethod (sm_yn 106) ∈ sm_gw := sm_mem 746 (by decide +kernel) (by decide +kernel)
theorem sm_e106 : Cond.selects (sm_Rn (sm_cy 106)) (sm_yn 106) (sm_yn 106) ∈ sm_gw := sm_mem 747 (by decide +kernel) (by decide +kernel)
theorem sm_i107 : Cond.instanceMethod (sm_yn 107) ∈ sm_gw := sm_mem 750 (by decide +kernel) (by decide +kernel)
theorem sm_e107 : Cond.selects (sm_Rn (sm_cy 107)) (sm_yn 107) (sm_yn 107) ∈ sm_gw := sm_mem 751 (by decide +kernel) (by decide +kernel)
theorem sm_i108 : Cond.instanceMethod (sm_yn 108) ∈ sm_gw := sm_mem 754 (by decide +kernel) (by decide +kernel)
theorem sm_e108 : Cond.selects (sm_Rn (sm_cy 108)) (sm_yn 108) (sm_yn 108) ∈ sm_gw := sm_mem 755 (by decide +kernel) (by decide +kernel)
theorem sm_i109 : Cond.instanceMethod (sm_yn 109) ∈ sm_gw := sm_mem 763 (by decide +kernel) (by decide +kernel)
theorem sm_e109 : Cond.selects (sm_Rn (sm_cy 109)) (sm_yn 109) (sm_yn 109) ∈ sm_gw := sm_memP 38 (by decide +kernel) (by decide +kernel)
theorem sm_i110 : Cond.instanceMethod (sm_yn 110) ∈ sm_gw := sm_mem 758 (by decide +kernel) (by decide +kernel)
theorem sm_e110 : Cond.selects (sm_Rn (sm_cy 110)) (sm_yn 110) (sm_yn 110) ∈ sm_gw := sm_mem 759 (by decide +kernel) (by decide +kernel)
theorem sm_i111 : Cond.instanceMethod (sm_yn 111) ∈ sm_gw := sm_mem 766 (by decide +kernel) (by decide +kernel)
theorem sm_e111 : Cond.selects (sm_Rn (sm_cy 111)) (sm_yn 111) (sm_yn 111) ∈ sm_gw := sm_mem 767 (by decide +kernel) (by decide +kernel)
theorem sm_i112 : Cond.instanceMethod (sm_yn 112) ∈ sm_gw := sm_mem 770 (by decide +kernel) (by decide +kernel)
theorem sm_e112 : Cond.selects (sm_Rn (sm_cy 112)) (sm_yn 112) (sm_yn 112) ∈ sm_gw := sm_mem 771 (by decide +kernel) (by decide +kernel)
theorem sm_i113 : Cond.instanceMethod (sm_yn 113) ∈ sm_gw := sm_mem 774 (by decide +kernel) (by decide +kernel)
theorem sm_e113 : Cond.selects (sm_Rn (sm_cy 113)) (sm_yn 113) (sm_yn 113) ∈ sm_gw := sm_mem 775 (by decide +kernel) (by decide +kernel)
theorem sm_i114 : Cond.instanceMethod (sm_yn 114) ∈ sm_gw := sm_mem 778 (by decide +kernel) (by decide +kernel)
theorem sm_e114 : Cond.selects (sm_Rn (sm_cy 114)) (sm_yn 114) (sm_yn 114) ∈ sm_gw := sm_mem 779 (by decide +kernel) (by decide +kernel)
theorem sm_s115 : Cond.static (sm_yn 115) ∈ sm_gw := sm_mem 521 (by decide +kernel) (by decide +kernel)
def sm_nl : List Cond := [Cond.methodLinkNest (sm_Rn 0) 31 (sm_yn 64) RX4, Cond.methodLinkNest (sm_Rn 2) 112 (sm_yn 63) RX4, Cond.methodLinkNest (sm_Rn 2) 142 (sm_yn 64) RX4]
def sm_cok (e : Nat × Nat × Nat × Nat) : Prop := e.2.2.1 < sm_nm ∧ Cond.initialized (sm_Rn (sm_cy e.2.2.1)) ∈ sm_gw ∧ (e.2.2.2 = 0 → sm_sta e.2.2.1 = false ∧ sm_cy e.2.2.1 < 6 ∧ Cond.methodLink (sm_Rn e.1) e.2.1 (sm_yn e.2.2.1) ∈ sm_gw ∧ Cond.instanceMethod (sm_yn e.2.2.1) ∈ sm_gw ∧ Cond.selects (sm_Rn (sm_cy e.2.2.1)) (sm_yn e.2.2.1) (sm_yn e.2.2.1) ∈ sm_gw) ∧ (e.2.2.2 = 1 → sm_sta e.2.2.1 = true ∧ Cond.methodLink (sm_Rn e.1) e.2.1 (sm_yn e.2.2.1) ∈ sm_gw ∧ Cond.static (sm_yn e.2.2.1) ∈ sm_gw) ∧ (e.2.2.2 = 2 → sm_sta e.2.2.1 = true ∧ Cond.methodLinkNest (sm_Rn e.1) e.2.1 (sm_yn e.2.2.1) RX4 ∈ sm_nl ∧ Cond.static (sm_yn e.2.2.1) ∈ sm_gw) ∧ e.2.2.2 < 3
theorem sm_c0 : sm_cok (0, 31, 64, 2) := ⟨by decide, sm_in4, (fun h => absurd h (by decide)), (fun h => absurd h (by decide)), (fun _ => ⟨rfl, List.mem_of_getElem? (i := 0) rfl, sm_s64⟩), by decide⟩
theorem sm_c1 : sm_cok (0, 35, 1, 0) := ⟨by decide, sm_in0, (fun _ => ⟨rfl, by decide, sm_mem 436 (by decide +kernel) (by decide +kernel), sm_i1, sm_e1⟩), (fun h => absurd h (by decide)), (fun h => absurd h (by decide)), by decide⟩
theorem sm_c2 : sm_cok (0, 39, 6, 0) := ⟨by decide, sm_in0, (fun _ => ⟨rfl, by decide, sm_mem 504 (by decide +kernel) (by decide +kernel), sm_i6, sm_e6⟩), (fun h => absurd h (by decide)), (fun h => absurd h (by decide)), by decide⟩
theorem sm_c3 : sm_cok (0, 43, 7, 0) := ⟨by decide, sm_in0, (fun _ => ⟨rfl, by decide, sm_mem 508 (by decide +kernel) (by decide +kernel), sm_i7, sm_e7⟩), (fun h => absurd h (by decide)), (fun h => absurd h (by decide)), by decide⟩
theorem sm_c4 : sm_cok (2, 43, 17, 0) := ⟨by decide, sm_in1, (fun _ => ⟨rfl, by decide, sm_mem 295 (by decide +kernel) (by decide +kernel), sm_i17, sm_e17⟩), (fun h => absurd h (by decide)), (fun h => absurd h (by decide)), by decide⟩
theorem sm_c5 : sm_cok (2, 84, 0, 0) := ⟨by decide, sm_in0, (fun _ => ⟨rfl, by decide, sm_mem 383 (by decide +kernel) (by decide +kernel), sm_i0, sm_e0⟩), (fun h => absurd h (by decide)), (fun h => absurd h (by decide)), by decide⟩
theorem sm_c6 : sm_cok (2, 88, 3, 0) := ⟨by decide, sm_in0, (fun _ => ⟨rfl, by decide, sm_mem 364 (by decide +kernel) (by decide +kernel), sm_i3, sm_e3⟩), (fun h => absurd h (by decide)), (fun h => absurd h (by decide)), by decide⟩
theorem sm_c7 : sm_cok (2, 91, 21, 0) := ⟨by decide, sm_in2, (fun _ => ⟨rfl, by decide, sm_mem 360 (by decide +kernel) (by decide +kernel), sm_i21, sm_e21⟩), (fun h => absurd h (by decide)), (fun h => absurd h (by decide)), by decide⟩
theorem sm_c8 : sm_cok (2, 98, 26, 0) := ⟨by decide, sm_in2, (fun _ => ⟨rfl, by decide, sm_mem 396 (by decide +kernel) (by decide +kernel), sm_i26, sm_e26⟩), (fun h => absurd h (by decide)), (fun h => absurd h (by decide)), by decide⟩
theorem sm_c9 : sm_cok (2, 102, 22, 0) := ⟨by decide, sm_in2, (fun _ => ⟨rfl, by decide, sm_mem 400 (by decide +kernel) (by decide +kernel), sm_i22, sm_e22⟩), (fun h => absurd h (by decide)), (fun h => absurd h (by decide)), by decide⟩
theorem sm_c10 : sm_cok (2, 105, 27, 0) := ⟨by decide, sm_in2, (fun _ => ⟨rfl, by decide, sm_mem 401 (by decide +kernel) (by decide +kernel), sm_i27, sm_e27⟩), (fun h => absurd h (by decide)), (fun h => absurd h (by decide)), by decide⟩
theorem sm_c11 : sm_cok (2, 109, 28, 0) := ⟨by decide, sm_in2, (fun _ => ⟨rfl, by decide, sm_mem 441 (by decide +kernel) (by decide +kernel), sm_i28, sm_e28⟩), (fun h => absurd h (by decide)), (fun h => absurd h (by decide)), by decide⟩
theorem sm_c12 : sm_cok (2, 112, 63, 2) := ⟨by decide, sm_in4, (fun h => absurd h (by decide)), (fun h => absurd h (by decide)), (fun _ => ⟨rfl, List.mem_of_getElem? (i := 1) rfl, sm_s63⟩), by decide⟩
theorem sm_c13 : sm_cok (2, 115, 8, 0) := ⟨by decide, sm_in0, (fun _ => ⟨rfl, by decide, sm_mem 449 (by decide +kernel) (by decide +kernel), sm_i8, sm_e8⟩), (fun h => absurd h (by decide)), (fun h => absurd h (by decide)), by decide⟩
theorem sm_c14 : sm_cok (2, 119, 23, 0) := ⟨by decide, sm_in2, (fun _ => ⟨rfl, by decide, sm_mem 453 (by decide +kernel) (by decide +kernel), sm_i23, sm_e23⟩), (fun h => absurd h (by decide)), (fun h => absurd h (by decide)), by decide⟩
theorem sm_c15 : sm_cok (2, 122, 32, 0) := ⟨by decide, sm_in2, (fun _ => ⟨rfl, by decide, sm_mem 457 (by decide +kernel) (by decide +kernel), sm_i32, sm_e32⟩), (fun h => absurd h (by decide)), (fun h => absurd h (by decide)), by decide⟩
theorem sm_c16 : sm_cok (2, 128, 30, 0) := ⟨by decide, sm_in2, (fun _ => ⟨rfl, by decide, sm_mem 405 (by decide +kernel) (by decide +kernel), sm_i30, sm_e30⟩), (fun h => absurd h (by decide)), (fun h => absurd h (by decide)), by decide⟩
theorem sm_c17 : sm_cok (2, 132, 29, 0) := ⟨by decide, sm_in2, (fun _ => ⟨rfl, by decide, sm_mem 423 (by decide +kernel) (by decide +kernel), sm_i29, sm_e29⟩), (fun h => absurd h (by decide)), (fun h => absurd h (by decide)), by decide⟩
theorem sm_c18 : sm_cok (2, 135, 31, 0) := ⟨by decide, sm_in2, (fun _ => ⟨rfl, by decide, sm_mem 428 (by decide +kernel) (by decide +kernel), sm_i31, sm_e31⟩), (fun h => absurd h (by decide)), (fun h => absurd h (by decide)), by decide⟩
theorem sm_c19 : sm_cok (2, 139, 4, 0) := ⟨by decide, sm_in0, (fun _ => ⟨rfl, by decide, sm_mem 409 (by decide +kernel) (by decide +kernel), sm_i4, sm_e4⟩), (fun h => absurd h (by decide)), (fun h => absurd h (by decide)), by decide⟩
theorem sm_c20 : sm_cok (2, 142, 64, 2) := ⟨by decide, sm_in4, (fun h => absurd h (by decide)), (fun h => absurd h (by decide)), (fun _ => ⟨rfl, List.mem_of_getElem? (i := 2) rfl, sm_s64⟩), by decide⟩
theorem sm_c21 : sm_cok (2, 152, 18, 0) := ⟨by decide, sm_in1, (fun _ => ⟨rfl, by decide, sm_mem 419 (by decide +kernel) (by decide +kernel), sm_i18, sm_e18⟩), (fun h => absurd h (by decide)), (fun h => absurd h (by decide)), by decide⟩
theorem sm_c22 : sm_cok (2, 167, 2, 0) := ⟨by decide, sm_in0, (fun _ => ⟨rfl, by decide, sm_mem 432 (by decide +kernel) (by decide +kernel), sm_i2, sm_e2⟩), (fun h => absurd h (by decide)), (fun h => absurd h (by decide)), by decide⟩
theorem sm_c23 : sm_cok (2, 171, 1, 0) := ⟨by decide, sm_in0, (fun _ => ⟨rfl, by decide, sm_mem 440 (by decide +kernel) (by decide +kernel), sm_i1, sm_e1⟩), (fun h => absurd h (by decide)), (fun h => absurd h (by decide)), by decide⟩
theorem sm_c24 : sm_cok (2, 178, 33, 0) := ⟨by decide, sm_in2, (fun _ => ⟨rfl, by decide, sm_mem 461 (by decide +kernel) (by decide +kernel), sm_i33, sm_e33⟩), (fun h => absurd h (by decide)), (fun h => absurd h (by decide)), by decide⟩
theorem sm_c25 : sm_cok (3, 22, 9, 0) := ⟨by decide, sm_in1, (fun _ => ⟨rfl, by decide, sm_mem 239 (by decide +kernel) (by decide +kernel), sm_i9, sm_e9⟩), (fun h => absurd h (by decide)), (fun h => absurd h (by decide)), by decide⟩
theorem sm_c26 : sm_cok (3, 30, 36, 0) := ⟨by decide, sm_in3, (fun _ => ⟨rfl, by decide, sm_mem 243 (by decide +kernel) (by decide +kernel), sm_i36, sm_e36⟩), (fun h => absurd h (by decide)), (fun h => absurd h (by decide)), by decide⟩
theorem sm_c27 : sm_cok (3, 34, 40, 0) := ⟨by decide, sm_in3, (fun _ => ⟨rfl, by decide, sm_mem 247 (by decide +kernel) (by decide +kernel), sm_i40, sm_e40⟩), (fun h => absurd h (by decide)), (fun h => absurd h (by decide)), by decide⟩
theorem sm_c28 : sm_cok (3, 38, 37, 0) := ⟨by decide, sm_in3, (fun _ => ⟨rfl, by decide, sm_mem 251 (by decide +kernel) (by decide +kernel), sm_i37, sm_e37⟩), (fun h => absurd h (by decide)), (fun h => absurd h (by decide)), by decide⟩
theorem sm_c29 : sm_cok (3, 42, 10, 0) := ⟨by decide, sm_in1, (fun _ => ⟨rfl, by decide, sm_mem 263 (by decide +kernel) (by decide +kernel), sm_i10, sm_e10⟩), (fun h => absurd h (by decide)), (fun h => absurd h (by decide)), by decide⟩
theorem sm_c30 : sm_cok (3, 45, 11, 0) := ⟨by decide, sm_in1, (fun _ => ⟨rfl, by decide, sm_mem 267 (by decide +kernel) (by decide +kernel), sm_i11, sm_e11⟩), (fun h => absurd h (by decide)), (fun h => absurd h (by decide)), by decide⟩
theorem sm_c31 : sm_cok (3, 49, 12, 0) := ⟨by decide, sm_in1, (fun _ => ⟨rfl, by decide, sm_mem 271 (by decide +kernel) (by decide +kernel), sm_i12, sm_e12⟩), (fun h => absurd h (by decide)), (fun h => absurd h (by decide)), by decide⟩
theorem sm_c32 : sm_cok (3, 53, 13, 0) := ⟨by decide, sm_in1, (fun _ => ⟨rfl, by decide, sm_mem 275 (by decide +kernel) (by decide +kernel), sm_i13, sm_e13⟩), (fun h => absurd h (by decide)), (fun h => absurd h (by decide)), by decide⟩
theorem sm_c33 : sm_cok (3, 56, 14, 0) := ⟨by decide, sm_in1, (fun _ => ⟨rfl, by decide, sm_mem 279 (by decide +kernel) (by decide +kernel), sm_i14, sm_e14⟩), (fun h => absurd h (by decide)), (fun h => absurd h (by decide)), by decide⟩
theorem sm_c34 : sm_cok (3, 59, 15, 0) := ⟨by decide, sm_in1, (fun _ => ⟨rfl, by decide, sm_mem 283 (by decide +kernel) (by decide +kernel), sm_i15, sm_e15⟩), (fun h => absurd h (by decide)), (fun h => absurd h (by decide)), by decide⟩
theorem sm_c35 : sm_cok (3, 62, 38, 0) := ⟨by decide, sm_in3, (fun _ => ⟨rfl, by decide, sm_mem 255 (by decide +kernel) (by decide +kernel), sm_i38, sm_e38⟩), (fun h => absurd h (by decide)), (fun h => absurd h (by decide)), by decide⟩
theorem sm_c36 : sm_cok (3, 66, 39, 0) := ⟨by decide, sm_in3, (fun _ => ⟨rfl, by decide, sm_mem 259 (by decide +kernel) (by decide +kernel), sm_i39, sm_e39⟩), (fun h => absurd h (by decide)), (fun h => absurd h (by decide)), by decide⟩
theorem sm_c37 : sm_cok (4, 52, 34, 0) := ⟨by decide, sm_in3, (fun _ => ⟨rfl, by decide, sm_mem 231 (by decide +kernel) (by decide +kernel), sm_i34, sm_e34⟩), (fun h => absurd h (by decide)), (fun h => absurd h (by decide)), by decide⟩
theorem sm_c38 : sm_cok (4, 56, 35, 0) := ⟨by decide, sm_in3, (fun _ => ⟨rfl, by decide, sm_mem 235 (by decide +kernel) (by decide +kernel), sm_i35, sm_e35⟩), (fun h => absurd h (by decide)), (fun h => absurd h (by decide)), by decide⟩
theorem sm_c39 : sm_cok (4, 60, 59, 0) := ⟨by decide, sm_in4, (fun _ => ⟨rfl, by decide, sm_mem 287 (by decide +kernel) (by decide +kernel), sm_i59, sm_e59⟩), (fun h => absurd h (by decide)), (fun h => absurd h (by decide)), by decide⟩
theorem sm_c40 : sm_cok (4, 66, 16, 0) := ⟨by decide, sm_in1, (fun _ => ⟨rfl, by decide, sm_mem 344 (by decide +kernel) (by decide +kernel), sm_i16, sm_e16⟩), (fun h => absurd h (by decide)), (fun h => absurd h (by decide)), by decide⟩
theorem sm_c41 : sm_cok (4, 73, 58, 0) := ⟨by decide, sm_in4, (fun _ => ⟨rfl, by decide, sm_mem 352 (by decide +kernel) (by decide +kernel), sm_i58, sm_e58⟩), (fun h => absurd h (by decide)), (fun h => absurd h (by decide)), by decide⟩
theorem sm_c42 : sm_cok (4, 77, 60, 0) := ⟨by decide, sm_in4, (fun _ => ⟨rfl, by decide, sm_mem 368 (by decide +kernel) (by decide +kernel), sm_i60, sm_e60⟩), (fun h => absurd h (by decide)), (fun h => absurd h (by decide)), by decide⟩
theorem sm_c43 : sm_cok (4, 80, 62, 0) := ⟨by decide, sm_in4, (fun _ => ⟨rfl, by decide, sm_mem 388 (by decide +kernel) (by decide +kernel), sm_i62, sm_e62⟩), (fun h => absurd h (by decide)), (fun h => absurd h (by decide)), by decide⟩
theorem sm_c44 : sm_cok (4, 84, 56, 0) := ⟨by decide, sm_in4, (fun _ => ⟨rfl, by decide, sm_mem 469 (by decide +kernel) (by decide +kernel), sm_i56, sm_e56⟩), (fun h => absurd h (by decide)), (fun h => absurd h (by decide)), by decide⟩
theorem sm_c45 : sm_cok (4, 97, 57, 0) := ⟨by decide, sm_in4, (fun _ => ⟨rfl, by decide, sm_mem 477 (by decide +kernel) (by decide +kernel), sm_i57, sm_e57⟩), (fun h => absurd h (by decide)), (fun h => absurd h (by decide)), by decide⟩
theorem sm_c46 : sm_cok (4, 118, 20, 0) := ⟨by decide, sm_in2, (fun _ => ⟨rfl, by decide, sm_mem 376 (by decide +kernel) (by decide +kernel), sm_i20, sm_e20⟩), (fun h => absurd h (by decide)), (fun h => absurd h (by decide)), by decide⟩
theorem sm_c47 : sm_cok (4, 122, 3, 0) := ⟨by decide, sm_in0, (fun _ => ⟨rfl, by decide, sm_mem 493 (by decide +kernel) (by decide +kernel), sm_i3, sm_e3⟩), (fun h => absurd h (by decide)), (fun h => absurd h (by decide)), by decide⟩
theorem sm_c48 : sm_cok (4, 126, 21, 0) := ⟨by decide, sm_in2, (fun _ => ⟨rfl, by decide, sm_mem 494 (by decide +kernel) (by decide +kernel), sm_i21, sm_e21⟩), (fun h => absurd h (by decide)), (fun h => absurd h (by decide)), by decide⟩
theorem sm_c49 : sm_cok (4, 129, 18, 0) := ⟨by decide, sm_in1, (fun _ => ⟨rfl, by decide, sm_mem 495 (by decide +kernel) (by decide +kernel), sm_i18, sm_e18⟩), (fun h => absurd h (by decide)), (fun h => absurd h (by decide)), by decide⟩
theorem sm_c50 : sm_cok (4, 135, 5, 0) := ⟨by decide, sm_in0, (fun _ => ⟨rfl, by decide, sm_mem 500 (by decide +kernel) (by decide +kernel), sm_i5, sm_e5⟩), (fun h => absurd h (by decide)), (fun h => absurd h (by decide)), by decide⟩
theorem sm_c51 : sm_cok (4, 145, 24, 0) := ⟨by decide, sm_in2, (fun _ => ⟨rfl, by decide, sm_mem 516 (by decide +kernel) (by decide +kernel), sm_i24, sm_e24⟩), (fun h => absurd h (by decide)), (fun h => absurd h (by decide)), by decide⟩
theorem sm_c52 : sm_cok (4, 148, 115, 1) := ⟨by decide, sm_in6, (fun h => absurd h (by decide)), (fun _ => ⟨rfl, sm_mem 520 (by decide +kernel) (by decide +kernel), sm_s115⟩), (fun h => absurd h (by decide)), by decide⟩
theorem sm_c53 : sm_cok (4, 162, 63, 1) := ⟨by decide, sm_in4, (fun h => absurd h (by decide)), (fun _ => ⟨rfl, sm_mem 530 (by decide +kernel) (by decide +kernel), sm_s63⟩), (fun h => absurd h (by decide)), by decide⟩
theorem sm_c54 : sm_cok (4, 168, 23, 0) := ⟨by decide, sm_in2, (fun _ => ⟨rfl, by decide, sm_mem 535 (by decide +kernel) (by decide +kernel), sm_i23, sm_e23⟩), (fun h => absurd h (by decide)), (fun h => absurd h (by decide)), by decide⟩
theorem sm_c55 : sm_cok (4, 180, 22, 0) := ⟨by decide, sm_in2, (fun _ => ⟨rfl, by decide, sm_mem 356 (by decide +kernel) (by decide +kernel), sm_i22, sm_e22⟩), (fun h => absurd h (by decide)), (fun h => absurd h (by decide)), by decide⟩
theorem sm_c56 : sm_cok (4, 186, 19, 0) := ⟨by decide, sm_in2, (fun _ => ⟨rfl, by decide, sm_mem 291 (by decide +kernel) (by decide +kernel), sm_i19, sm_e19⟩), (fun h => absurd h (by decide)), (fun h => absurd h (by decide)), by decide⟩
theorem sm_c57 : sm_cok (4, 190, 61, 0) := ⟨by decide, sm_in4, (fun _ => ⟨rfl, by decide, sm_mem 372 (by decide +kernel) (by decide +kernel), sm_i61, sm_e61⟩), (fun h => absurd h (by decide)), (fun h => absurd h (by decide)), by decide⟩
theorem sm_c58 : sm_cok (4, 193, 25, 0) := ⟨by decide, sm_in2, (fun _ => ⟨rfl, by decide, sm_mem 392 (by decide +kernel) (by decide +kernel), sm_i25, sm_e25⟩), (fun h => absurd h (by decide)), (fun h => absurd h (by decide)), by decide⟩
theorem sm_c59 : sm_cok (5, 35, 70, 0) := ⟨by decide, sm_in5, (fun _ => ⟨rfl, by decide, sm_mem 546 (by decide +kernel) (by decide +kernel), sm_i70, sm_e70⟩), (fun h => absurd h (by decide)), (fun h => absurd h (by decide)), by decide⟩
theorem sm_c60 : sm_cok (5, 38, 71, 0) := ⟨by decide, sm_in5, (fun _ => ⟨rfl, by decide, sm_mem 550 (by decide +kernel) (by decide +kernel), sm_i71, sm_e71⟩), (fun h => absurd h (by decide)), (fun h => absurd h (by decide)), by decide⟩
theorem sm_c61 : sm_cok (5, 42, 82, 0) := ⟨by decide, sm_in5, (fun _ => ⟨rfl, by decide, sm_mem 554 (by decide +kernel) (by decide +kernel), sm_i82, sm_e82⟩), (fun h => absurd h (by decide)), (fun h => absurd h (by decide)), by decide⟩
theorem sm_c62 : sm_cok (5, 45, 65, 1) := ⟨by decide, sm_in5, (fun h => absurd h (by decide)), (fun _ => ⟨rfl, sm_mem 600 (by decide +kernel) (by decide +kernel), sm_s65⟩), (fun h => absurd h (by decide)), by decide⟩
theorem sm_c63 : sm_cok (5, 56, 73, 0) := ⟨by decide, sm_in5, (fun _ => ⟨rfl, by decide, sm_mem 623 (by decide +kernel) (by decide +kernel), sm_i73, sm_e73⟩), (fun h => absurd h (by decide)), (fun h => absurd h (by decide)), by decide⟩
theorem sm_c64 : sm_cok (5, 60, 72, 0) := ⟨by decide, sm_in5, (fun _ => ⟨rfl, by decide, sm_mem 627 (by decide +kernel) (by decide +kernel), sm_i72, sm_e72⟩), (fun h => absurd h (by decide)), (fun h => absurd h (by decide)), by decide⟩
theorem sm_c65 : sm_cok (5, 64, 74, 0) := ⟨by decide, sm_in5, (fun _ => ⟨rfl, by decide, sm_mem 619 (by decide +kernel) (by decide +kernel), sm_i74, sm_e74⟩), (fun h => absurd h (by decide)), (fun h => absurd h (by decide)), by decide⟩
theorem sm_c66 : sm_cok (5, 67, 75, 0) := ⟨by decide, sm_in5, (fun _ => ⟨rfl, by decide, sm_mem 635 (by decide +kernel) (by decide +kernel), sm_i75, sm_e75⟩), (fun h => absurd h (by decide)), (fun h => absurd h (by decide)), by decide⟩
theorem sm_c67 : sm_cok (5, 70, 76, 0) := ⟨by decide, sm_in5, (fun _ => ⟨rfl, by decide, sm_mem 631 (by decide +kernel) (by decide +kernel), sm_i76, sm_e76⟩), (fun h => absurd h (by decide)), (fun h => absurd h (by decide)), by decide⟩
theorem sm_c68 : sm_cok (5, 73, 77, 0) := ⟨by decide, sm_in5, (fun _ => ⟨rfl, by decide, sm_mem 639 (by decide +kernel) (by decide +kernel), sm_i77, sm_e77⟩), (fun h => absurd h (by decide)), (fun h => absurd h (by decide)), by decide⟩
theorem sm_c69 : sm_cok (5, 77, 78, 0) := ⟨by decide, sm_in5, (fun _ => ⟨rfl, by decide, sm_mem 615 (by decide +kernel) (by decide +kernel), sm_i78, sm_e78⟩), (fun h => absurd h (by decide)), (fun h => absurd h (by decide)), by decide⟩
theorem sm_c70 : sm_cok (5, 81, 79, 0) := ⟨by decide, sm_in5, (fun _ => ⟨rfl, by decide, sm_mem 611 (by decide +kernel) (by decide +kernel), sm_i79, sm_e79⟩), (fun h => absurd h (by decide)), (fun h => absurd h (by decide)), by decide⟩
theorem sm_c71 : sm_cok (5, 88, 85, 0) := ⟨by decide, sm_in5, (fun _ => ⟨rfl, by decide, sm_mem 667 (by decide +kernel) (by decide +kernel), sm_i85, sm_e85⟩), (fun h => absurd h (by decide)), (fun h => absurd h (by decide)), by decide⟩
theorem sm_c72 : sm_cok (5, 92, 83, 0) := ⟨by decide, sm_in5, (fun _ => ⟨rfl, by decide, sm_mem 659 (by decide +kernel) (by decide +kernel), sm_i83, sm_e83⟩), (fun h => absurd h (by decide)), (fun h => absurd h (by decide)), by decide⟩
theorem sm_c73 : sm_cok (5, 95, 86, 0) := ⟨by decide, sm_in5, (fun _ => ⟨rfl, by decide, sm_mem 663 (by decide +kernel) (by decide +kernel), sm_i86, sm_e86⟩), (fun h => absurd h (by decide)), (fun h => absurd h (by decide)), by decide⟩
theorem sm_c74 : sm_cok (5, 99, 87, 0) := ⟨by decide, sm_in5, (fun _ => ⟨rfl, by decide, sm_mem 655 (by decide +kernel) (by decide +kernel), sm_i87, sm_e87⟩), (fun h => absurd h (by decide)), (fun h => absurd h (by decide)), by decide⟩
theorem sm_c75 : sm_cok (5, 105, 66, 1) := ⟨by decide, sm_in5, (fun h => absurd h (by decide)), (fun _ => ⟨rfl, sm_mem 691 (by decide +kernel) (by decide +kernel), sm_s66⟩), (fun h => absurd h (by decide)), by decide⟩
theorem sm_c76 : sm_cok (5, 108, 67, 1) := ⟨by decide, sm_in5, (fun h => absurd h (by decide)), (fun _ => ⟨rfl, sm_mem 694 (by decide +kernel) (by decide +kernel), sm_s67⟩), (fun h => absurd h (by decide)), by decide⟩
theorem sm_c77 : sm_cok (5, 111, 89, 0) := ⟨by decide, sm_in5, (fun _ => ⟨rfl, by decide, sm_mem 705 (by decide +kernel) (by decide +kernel), sm_i89, sm_e89⟩), (fun h => absurd h (by decide)), (fun h => absurd h (by decide)), by decide⟩
theorem sm_c78 : sm_cok (5, 114, 92, 0) := ⟨by decide, sm_in5, (fun _ => ⟨rfl, by decide, sm_mem 687 (by decide +kernel) (by decide +kernel), sm_i92, sm_e92⟩), (fun h => absurd h (by decide)), (fun h => absurd h (by decide)), by decide⟩
theorem sm_c79 : sm_cok (5, 117, 84, 0) := ⟨by decide, sm_in5, (fun _ => ⟨rfl, by decide, sm_mem 679 (by decide +kernel) (by decide +kernel), sm_i84, sm_e84⟩), (fun h => absurd h (by decide)), (fun h => absurd h (by decide)), by decide⟩
theorem sm_c80 : sm_cok (5, 120, 91, 0) := ⟨by decide, sm_in5, (fun _ => ⟨rfl, by decide, sm_mem 701 (by decide +kernel) (by decide +kernel), sm_i91, sm_e91⟩), (fun h => absurd h (by decide)), (fun h => absurd h (by decide)), by decide⟩
theorem sm_c81 : sm_cok (5, 124, 90, 0) := ⟨by decide, sm_in5, (fun _ => ⟨rfl, by decide, sm_mem 697 (by decide +kernel) (by decide +kernel), sm_i90, sm_e90⟩), (fun h => absurd h (by decide)), (fun h => absurd h (by decide)), by decide⟩
theorem sm_c82 : sm_cok (5, 127, 94, 0) := ⟨by decide, sm_in5, (fun _ => ⟨rfl, by decide, sm_mem 683 (by decide +kernel) (by decide +kernel), sm_i94, sm_e94⟩), (fun h => absurd h (by decide)), (fun h => absurd h (by decide)), by decide⟩
theorem sm_c83 : sm_cok (5, 131, 93, 0) := ⟨by decide, sm_in5, (fun _ => ⟨rfl, by decide, sm_mem 709 (by decide +kernel) (by decide +kernel), sm_i93, sm_e93⟩), (fun h => absurd h (by decide)), (fun h => absurd h (by decide)), by decide⟩
theorem sm_c84 : sm_cok (5, 134, 97, 0) := ⟨by decide, sm_in5, (fun _ => ⟨rfl, by decide, sm_mem 713 (by decide +kernel) (by decide +kernel), sm_i97, sm_e97⟩), (fun h => absurd h (by decide)), (fun h => absurd h (by decide)), by decide⟩
theorem sm_c85 : sm_cok (5, 137, 98, 0) := ⟨by decide, sm_in5, (fun _ => ⟨rfl, by decide, sm_mem 721 (by decide +kernel) (by decide +kernel), sm_i98, sm_e98⟩), (fun h => absurd h (by decide)), (fun h => absurd h (by decide)), by decide⟩
theorem sm_c86 : sm_cok (5, 140, 99, 0) := ⟨by decide, sm_in5, (fun _ => ⟨rfl, by decide, sm_mem 725 (by decide +kernel) (by decide +kernel), sm_i99, sm_e99⟩), (fun h => absurd h (by decide)), (fun h => absurd h (by decide)), by decide⟩
theorem sm_c87 : sm_cok (5, 143, 96, 0) := ⟨by decide, sm_in5, (fun _ => ⟨rfl, by decide, sm_mem 717 (by decide +kernel) (by decide +kernel), sm_i96, sm_e96⟩), (fun h => absurd h (by decide)), (fun h => absurd h (by decide)), by decide⟩
theorem sm_c88 : sm_cok (5, 146, 88, 0) := ⟨by decide, sm_in5, (fun _ => ⟨rfl, by decide, sm_mem 651 (by decide +kernel) (by decide +kernel), sm_i88, sm_e88⟩), (fun h => absurd h (by decide)), (fun h => absurd h (by decide)), by decide⟩
theorem sm_c89 : sm_cok (5, 149, 100, 0) := ⟨by decide, sm_in5, (fun _ => ⟨rfl, by decide, sm_mem 671 (by decide +kernel) (by decide +kernel), sm_i100, sm_e100⟩), (fun h => absurd h (by decide)), (fun h => absurd h (by decide)), by decide⟩
theorem sm_c90 : sm_cok (5, 152, 95, 0) := ⟨by decide, sm_in5, (fun _ => ⟨rfl, by decide, sm_mem 675 (by decide +kernel) (by decide +kernel), sm_i95, sm_e95⟩), (fun h => absurd h (by decide)), (fun h => absurd h (by decide)), by decide⟩
theorem sm_c91 : sm_cok (5, 155, 101, 0) := ⟨by decide, sm_in5, (fun _ => ⟨rfl, by decide, sm_mem 733 (by decide +kernel) (by decide +kernel), sm_i101, sm_e101⟩), (fun h => absurd h (by decide)), (fun h => absurd h (by decide)), by decide⟩
theorem sm_c92 : sm_cok (5, 158, 102, 0) := ⟨by decide, sm_in5, (fun _ => ⟨rfl, by decide, sm_mem 741 (by decide +kernel) (by decide +kernel), sm_i102, sm_e102⟩), (fun h => absurd h (by decide)), (fun h => absurd h (by decide)), by decide⟩
theorem sm_c93 : sm_cok (5, 161, 109, 0) := ⟨by decide, sm_in5, (fun _ => ⟨rfl, by decide, sm_mem 761 (by decide +kernel) (by decide +kernel), sm_i109, sm_e109⟩), (fun h => absurd h (by decide)), (fun h => absurd h (by decide)), by decide⟩
theorem sm_ct_ok : ∀ e ∈ sm_ct, sm_cok e := (List.forall_mem_cons.mpr ⟨sm_c0, (List.forall_mem_cons.mpr ⟨sm_c1, (List.forall_mem_cons.mpr ⟨sm_c2, (List.forall_mem_cons.mpr ⟨sm_c3, (List.forall_mem_cons.mpr ⟨sm_c4, (List.forall_mem_cons.mpr ⟨sm_c5, (List.forall_mem_cons.mpr ⟨sm_c6, (List.forall_mem_cons.mpr ⟨sm_c7, (List.forall_mem_cons.mpr ⟨sm_c8, (List.forall_mem_cons.mpr ⟨sm_c9, (List.forall_mem_cons.mpr ⟨sm_c10, (List.forall_mem_cons.mpr ⟨sm_c11, (List.forall_mem_cons.mpr ⟨sm_c12, (List.forall_mem_cons.mpr ⟨sm_c13, (List.forall_mem_cons.mpr ⟨sm_c14, (List.forall_mem_cons.mpr ⟨sm_c15, (List.forall_mem_cons.mpr ⟨sm_c16, (List.forall_mem_cons.mpr ⟨sm_c17, (List.forall_mem_cons.mpr ⟨sm_c18, (List.forall_mem_cons.mpr ⟨sm_c19, (List.forall_mem_cons.mpr ⟨sm_c20, (List.forall_mem_cons.mpr ⟨sm_c21, (List.forall_mem_cons.mpr ⟨sm_c22, (List.forall_mem_cons.mpr ⟨sm_c23, (List.forall_mem_cons.mpr ⟨sm_c24, (List.forall_mem_cons.mpr ⟨sm_c25, (List.forall_mem_cons.mpr ⟨sm_c26, (List.forall_mem_cons.mpr ⟨sm_c27, (List.forall_mem_cons.mpr ⟨sm_c28, (List.forall_mem_cons.mpr ⟨sm_c29, (List.forall_mem_cons.mpr ⟨sm_c30, (List.forall_mem_cons.mpr ⟨sm_c31, (List.forall_mem_cons.mpr ⟨sm_c32, (List.forall_mem_cons.mpr ⟨sm_c33, (List.forall_mem_cons.mpr ⟨sm_c34, (List.forall_mem_cons.mpr ⟨sm_c35, (List.forall_mem_cons.mpr ⟨sm_c36, (List.forall_mem_cons.mpr ⟨sm_c37, (List.forall_mem_cons.mpr ⟨sm_c38, (List.forall_mem_cons.mpr ⟨sm_c39, (List.forall_mem_cons.mpr ⟨sm_c40, (List.forall_mem_cons.mpr ⟨sm_c41, (List.forall_mem_cons.mpr ⟨sm_c42, (List.forall_mem_cons.mpr ⟨sm_c43, (List.forall_mem_cons.mpr ⟨sm_c44, (List.forall_mem_cons.mpr ⟨sm_c45, (List.forall_mem_cons.mpr ⟨sm_c46, (List.forall_mem_cons.mpr ⟨sm_c47, (List.forall_mem_cons.mpr ⟨sm_c48, (List.forall_mem_cons.mpr ⟨sm_c49, (List.forall_mem_cons.mpr ⟨sm_c50, (List.forall_mem_cons.mpr ⟨sm_c51, (List.forall_mem_cons.mpr ⟨sm_c52, (List.forall_mem_cons.mpr ⟨sm_c53, (List.forall_mem_cons.mpr ⟨sm_c54, (List.forall_mem_cons.mpr ⟨sm_c55, (List.forall_mem_cons.mpr ⟨sm_c56, (List.forall_mem_cons.mpr ⟨sm_c57, (List.forall_mem_cons.mpr ⟨sm_c58, (List.forall_mem_cons.mpr ⟨sm_c59, (List.forall_mem_cons.mpr ⟨sm_c60, (List.forall_mem_cons.mpr ⟨sm_c61, (List.forall_mem_cons.mpr ⟨sm_c62, (List.forall_mem_cons.mpr ⟨sm_c63, (List.forall_mem_cons.mpr ⟨sm_c64, (List.forall_mem_cons.mpr ⟨sm_c65, (List.forall_mem_cons.mpr ⟨sm_c66, (List.forall_mem_cons.mpr ⟨sm_c67, (List.forall_mem_cons.mpr ⟨sm_c68, (List.forall_mem_cons.mpr ⟨sm_c69, (List.forall_mem_cons.mpr ⟨sm_c70, (List.forall_mem_cons.mpr ⟨sm_c71, (List.forall_mem_cons.mpr ⟨sm_c72, (List.forall_mem_cons.mpr ⟨sm_c73, (List.forall_mem_cons.mpr ⟨sm_c74, (List.forall_mem_cons.mpr ⟨sm_c75, (List.forall_mem_cons.mpr ⟨sm_c76, (List.forall_mem_cons.mpr ⟨sm_c77, (List.forall_mem_cons.mpr ⟨sm_c78, (List.forall_mem_cons.mpr ⟨sm_c79, (List.forall_mem_cons.mpr ⟨sm_c80, (List.forall_mem_cons.mpr ⟨sm_c81, (List.forall_mem_cons.mpr ⟨sm_c82, (List.forall_mem_cons.mpr ⟨sm_c83, (List.forall_mem_cons.mpr ⟨sm_c84, (List.forall_mem_cons.mpr ⟨sm_c85, (List.forall_mem_cons.mpr ⟨sm_c86, (List.forall_mem_cons.mpr ⟨sm_c87, (List.forall_mem_cons.mpr ⟨sm_c88, (List.forall_mem_cons.mpr ⟨sm_c89, (List.forall_mem_cons.mpr ⟨sm_c90, (List.forall_mem_cons.mpr ⟨sm_c91, (List.forall_mem_cons.mpr ⟨sm_c92, (List.forall_mem_cons.mpr ⟨sm_c93, (fun _ h => absurd h List.not_mem_nil)⟩)⟩)⟩)⟩)⟩)⟩)⟩)⟩)⟩)⟩)⟩)⟩)⟩)⟩)⟩)⟩)⟩)⟩)⟩)⟩)⟩)⟩)⟩)⟩)⟩)⟩)⟩)⟩)⟩)⟩)⟩)⟩)⟩)⟩)⟩)⟩)⟩)⟩)⟩)⟩)⟩)⟩)⟩)⟩)⟩)⟩)⟩)⟩)⟩)⟩)⟩)⟩)⟩)⟩)⟩)⟩)⟩)⟩)⟩)⟩)⟩)⟩)⟩)⟩)⟩)⟩)⟩)⟩)⟩)⟩)⟩)⟩)⟩)⟩)⟩)⟩)⟩)⟩)⟩)⟩)⟩)⟩)⟩)⟩)⟩)⟩)⟩)⟩)⟩)⟩)⟩)⟩)⟩)⟩)
def sm_fok (e : Nat × Nat × Nat × Nat) : Prop := e.2.2.1 < 6 ∧ e.2.2.2 < sm_Nf e.2.2.1 ∧ Cond.fieldLink (sm_Rn e.1) e.2.1 (sm_T e.2.2.1 e.2.2.2).1 (sm_T e.2.2.1 e.2.2.2).2.1 (sm_T e.2.2.1 e.2.2.2).2.2.1 ∈ sm_gw
theorem sm_f0 : sm_fok (0, 9, 0, 1) := ⟨by decide, by decide, sm_mem 115 (by decide +kernel) (by decide +kernel)⟩
theorem sm_f1 : sm_fok (0, 15, 0, 2) := ⟨by decide, by decide, sm_mem 116 (by decide +kernel) (by decide +kernel)⟩
theorem sm_f2 : sm_fok (0, 18, 0, 3) := ⟨by decide, by decide, sm_mem 118 (by decide +kernel) (by decide +kernel)⟩
theorem sm_f3 : sm_fok (0, 21, 0, 0) := ⟨by decide, by decide, sm_mem 112 (by decide +kernel) (by decide +kernel)⟩
theorem sm_f4 : sm_fok (1, 9, 1, 8) := ⟨by decide, by decide, sm_mem 68 (by decide +kernel) (by decide +kernel)⟩
theorem sm_f5 : sm_fok (1, 15, 1, 9) := ⟨by decide, by decide, sm_mem 70 (by decide +kernel) (by decide +kernel)⟩
theorem sm_f6 : sm_fok (1, 18, 1, 10) := ⟨by decide, by decide, sm_mem 72 (by decide +kernel) (by decide +kernel)⟩
theorem sm_f7 : sm_fok (1, 21, 1, 11) := ⟨by decide, by decide, sm_mem 74 (by decide +kernel) (by decide +kernel)⟩
theorem sm_f8 : sm_fok (1, 24, 1, 0) := ⟨by decide, by decide, sm_mem 49 (by decide +kernel) (by decide +kernel)⟩
theorem sm_f9 : sm_fok (1, 28, 1, 1) := ⟨by decide, by decide, sm_mem 52 (by decide +kernel) (by decide +kernel)⟩
theorem sm_f10 : sm_fok (1, 31, 1, 2) := ⟨by decide, by decide, sm_mem 55 (by decide +kernel) (by decide +kernel)⟩
theorem sm_f11 : sm_fok (1, 34, 1, 3) := ⟨by decide, by decide, sm_mem 58 (by decide +kernel) (by decide +kernel)⟩
theorem sm_f12 : sm_fok (1, 37, 1, 4) := ⟨by decide, by decide, sm_mem 60 (by decide +kernel) (by decide +kernel)⟩
theorem sm_f13 : sm_fok (1, 40, 1, 5) := ⟨by decide, by decide, sm_mem 63 (by decide +kernel) (by decide +kernel)⟩
theorem sm_f14 : sm_fok (1, 43, 1, 6) := ⟨by decide, by decide, sm_mem 65 (by decide +kernel) (by decide +kernel)⟩
theorem sm_f15 : sm_fok (1, 46, 1, 7) := ⟨by decide, by decide, sm_mem 67 (by decide +kernel) (by decide +kernel)⟩
theorem sm_f16 : sm_fok (2, 9, 2, 0) := ⟨by decide, by decide, sm_mem 129 (by decide +kernel) (by decide +kernel)⟩
theorem sm_f17 : sm_fok (2, 15, 2, 1) := ⟨by decide, by decide, sm_mem 131 (by decide +kernel) (by decide +kernel)⟩
theorem sm_f18 : sm_fok (2, 18, 2, 2) := ⟨by decide, by decide, sm_mem 133 (by decide +kernel) (by decide +kernel)⟩
theorem sm_f19 : sm_fok (2, 21, 2, 3) := ⟨by decide, by decide, sm_mem 135 (by decide +kernel) (by decide +kernel)⟩
theorem sm_f20 : sm_fok (2, 24, 2, 4) := ⟨by decide, by decide, sm_mem 137 (by decide +kernel) (by decide +kernel)⟩
theorem sm_f21 : sm_fok (2, 27, 2, 5) := ⟨by decide, by decide, sm_mem 139 (by decide +kernel) (by decide +kernel)⟩
theorem sm_f22 : sm_fok (2, 30, 2, 6) := ⟨by decide, by decide, sm_mem 141 (by decide +kernel) (by decide +kernel)⟩
theorem sm_f23 : sm_fok (2, 36, 2, 7) := ⟨by decide, by decide, sm_mem 143 (by decide +kernel) (by decide +kernel)⟩
theorem sm_f24 : sm_fok (2, 40, 2, 8) := ⟨by decide, by decide, sm_mem 145 (by decide +kernel) (by decide +kernel)⟩
theorem sm_f25 : sm_fok (2, 49, 1, 4) := ⟨by decide, by decide, sm_mem 61 (by decide +kernel) (by decide +kernel)⟩
theorem sm_f26 : sm_fok (2, 62, 0, 0) := ⟨by decide, by decide, sm_mem 113 (by decide +kernel) (by decide +kernel)⟩
theorem sm_f27 : sm_fok (2, 65, 2, 9) := ⟨by decide, by decide, sm_mem 146 (by decide +kernel) (by decide +kernel)⟩
theorem sm_f28 : sm_fok (2, 68, 2, 10) := ⟨by decide, by decide, sm_mem 148 (by decide +kernel) (by decide +kernel)⟩
theorem sm_f29 : sm_fok (2, 71, 2, 11) := ⟨by decide, by decide, sm_mem 150 (by decide +kernel) (by decide +kernel)⟩
theorem sm_f30 : sm_fok (2, 74, 1, 6) := ⟨by decide, by decide, sm_mem 66 (by decide +kernel) (by decide +kernel)⟩
theorem sm_f31 : sm_fok (2, 77, 2, 12) := ⟨by decide, by decide, sm_mem 152 (by decide +kernel) (by decide +kernel)⟩
theorem sm_f32 : sm_fok (2, 95, 1, 0) := ⟨by decide, by decide, sm_mem 51 (by decide +kernel) (by decide +kernel)⟩
theorem sm_f33 : sm_fok (2, 125, 1, 2) := ⟨by decide, by decide, sm_mem 56 (by decide +kernel) (by decide +kernel)⟩
theorem sm_f34 : sm_fok (2, 149, 1, 3) := ⟨by decide, by decide, sm_mem 59 (by decide +kernel) (by decide +kernel)⟩
theorem sm_f35 : sm_fok (2, 155, 1, 1) := ⟨by decide, by decide, sm_mem 53 (by decide +kernel) (by decide +kernel)⟩
theorem sm_f36 : sm_fok (2, 158, 1, 8) := ⟨by decide, by decide, sm_mem 69 (by decide +kernel) (by decide +kernel)⟩
theorem sm_f37 : sm_fok (2, 161, 1, 10) := ⟨by decide, by decide, sm_mem 73 (by decide +kernel) (by decide +kernel)⟩
theorem sm_f38 : sm_fok (2, 164, 1, 9) := ⟨by decide, by decide, sm_mem 71 (by decide +kernel) (by decide +kernel)⟩
theorem sm_f39 : sm_fok (2, 175, 1, 5) := ⟨by decide, by decide, sm_mem 64 (by decide +kernel) (by decide +kernel)⟩
theorem sm_f40 : sm_fok (3, 9, 3, 0) := ⟨by decide, by decide, sm_mem 28 (by decide +kernel) (by decide +kernel)⟩
theorem sm_f41 : sm_fok (3, 15, 3, 3) := ⟨by decide, by decide, sm_mem 32 (by decide +kernel) (by decide +kernel)⟩
theorem sm_f42 : sm_fok (3, 18, 3, 1) := ⟨by decide, by decide, sm_mem 30 (by decide +kernel) (by decide +kernel)⟩
theorem sm_f43 : sm_fok (3, 27, 3, 2) := ⟨by decide, by decide, sm_mem 31 (by decide +kernel) (by decide +kernel)⟩
theorem sm_f44 : sm_fok (4, 10, 4, 0) := ⟨by decide, by decide, sm_mem 305 (by decide +kernel) (by decide +kernel)⟩
theorem sm_f45 : sm_fok (4, 19, 4, 1) := ⟨by decide, by decide, sm_mem 306 (by decide +kernel) (by decide +kernel)⟩
theorem sm_f46 : sm_fok (4, 23, 4, 2) := ⟨by decide, by decide, sm_mem 307 (by decide +kernel) (by decide +kernel)⟩
theorem sm_f47 : sm_fok (4, 29, 4, 3) := ⟨by decide, by decide, sm_mem 308 (by decide +kernel) (by decide +kernel)⟩
theorem sm_f48 : sm_fok (4, 33, 4, 4) := ⟨by decide, by decide, sm_mem 309 (by decide +kernel) (by decide +kernel)⟩
theorem sm_f49 : sm_fok (4, 36, 4, 5) := ⟨by decide, by decide, sm_mem 310 (by decide +kernel) (by decide +kernel)⟩
theorem sm_f50 : sm_fok (4, 63, 3, 1) := ⟨by decide, by decide, sm_mem 29 (by decide +kernel) (by decide +kernel)⟩
theorem sm_f51 : sm_fok (4, 70, 1, 0) := ⟨by decide, by decide, sm_mem 50 (by decide +kernel) (by decide +kernel)⟩
theorem sm_f52 : sm_fok (4, 87, 2, 0) := ⟨by decide, by decide, sm_mem 130 (by decide +kernel) (by decide +kernel)⟩
theorem sm_f53 : sm_fok (4, 91, 2, 2) := ⟨by decide, by decide, sm_mem 134 (by decide +kernel) (by decide +kernel)⟩
theorem sm_f54 : sm_fok (4, 94, 2, 3) := ⟨by decide, by decide, sm_mem 136 (by decide +kernel) (by decide +kernel)⟩
theorem sm_f55 : sm_fok (4, 100, 2, 1) := ⟨by decide, by decide, sm_mem 132 (by decide +kernel) (by decide +kernel)⟩
theorem sm_f56 : sm_fok (4, 103, 2, 12) := ⟨by decide, by decide, sm_mem 153 (by decide +kernel) (by decide +kernel)⟩
theorem sm_f57 : sm_fok (4, 106, 2, 7) := ⟨by decide, by decide, sm_mem 144 (by decide +kernel) (by decide +kernel)⟩
theorem sm_f58 : sm_fok (4, 110, 0, 0) := ⟨by decide, by decide, sm_mem 114 (by decide +kernel) (by decide +kernel)⟩
theorem sm_f59 : sm_fok (4, 115, 4, 6) := ⟨by decide, by decide, sm_mem 311 (by decide +kernel) (by decide +kernel)⟩
theorem sm_f60 : sm_fok (4, 132, 2, 4) := ⟨by decide, by decide, sm_mem 138 (by decide +kernel) (by decide +kernel)⟩
theorem sm_f61 : sm_fok (4, 139, 0, 2) := ⟨by decide, by decide, sm_mem 117 (by decide +kernel) (by decide +kernel)⟩
theorem sm_f62 : sm_fok (4, 142, 0, 3) := ⟨by decide, by decide, sm_mem 119 (by decide +kernel) (by decide +kernel)⟩
theorem sm_f63 : sm_fok (4, 153, 2, 5) := ⟨by decide, by decide, sm_mem 140 (by decide +kernel) (by decide +kernel)⟩
theorem sm_f64 : sm_fok (4, 156, 2, 9) := ⟨by decide, by decide, sm_mem 147 (by decide +kernel) (by decide +kernel)⟩
theorem sm_f65 : sm_fok (4, 159, 2, 6) := ⟨by decide, by decide, sm_mem 142 (by decide +kernel) (by decide +kernel)⟩
theorem sm_f66 : sm_fok (4, 165, 2, 10) := ⟨by decide, by decide, sm_mem 149 (by decide +kernel) (by decide +kernel)⟩
theorem sm_f67 : sm_fok (4, 171, 1, 1) := ⟨by decide, by decide, sm_mem 54 (by decide +kernel) (by decide +kernel)⟩
theorem sm_f68 : sm_fok (4, 174, 1, 4) := ⟨by decide, by decide, sm_mem 62 (by decide +kernel) (by decide +kernel)⟩
theorem sm_f69 : sm_fok (4, 177, 1, 2) := ⟨by decide, by decide, sm_mem 57 (by decide +kernel) (by decide +kernel)⟩
theorem sm_f70 : sm_fok (4, 183, 2, 11) := ⟨by decide, by decide, sm_mem 151 (by decide +kernel) (by decide +kernel)⟩
theorem sm_f71 : sm_fok (5, 7, 5, 0) := ⟨by decide, by decide, sm_mem 558 (by decide +kernel) (by decide +kernel)⟩
theorem sm_f72 : sm_fok (5, 13, 5, 1) := ⟨by decide, by decide, sm_mem 559 (by decide +kernel) (by decide +kernel)⟩
theorem sm_f73 : sm_fok (5, 16, 5, 2) := ⟨by decide, by decide, sm_mem 560 (by decide +kernel) (by decide +kernel)⟩
theorem sm_f74 : sm_fok (5, 19, 5, 4) := ⟨by decide, by decide, sm_mem 562 (by decide +kernel) (by decide +kernel)⟩
theorem sm_f75 : sm_fok (5, 22, 5, 7) := ⟨by decide, by decide, sm_mem 565 (by decide +kernel) (by decide +kernel)⟩
theorem sm_f76 : sm_fok (5, 25, 5, 8) := ⟨by decide, by decide, sm_mem 566 (by decide +kernel) (by decide +kernel)⟩
theorem sm_f77 : sm_fok (5, 28, 5, 10) := ⟨by decide, by decide, sm_mem 568 (by decide +kernel) (by decide +kernel)⟩
theorem sm_f78 : sm_fok (5, 32, 5, 11) := ⟨by decide, by decide, sm_mem 569 (by decide +kernel) (by decide +kernel)⟩
theorem sm_f79 : sm_fok (5, 49, 5, 5) := ⟨by decide, by decide, sm_mem 563 (by decide +kernel) (by decide +kernel)⟩
theorem sm_f80 : sm_fok (5, 53, 5, 6) := ⟨by decide, by decide, sm_mem 564 (by decide +kernel) (by decide +kernel)⟩
theorem sm_f81 : sm_fok (5, 85, 5, 3) := ⟨by decide, by decide, sm_mem 561 (by decide +kernel) (by decide +kernel)⟩
theorem sm_f82 : sm_fok (5, 102, 5, 9) := ⟨by decide, by decide, sm_mem 567 (by decide +kernel) (by decide +kernel)⟩
theorem sm_ft_ok : ∀ e ∈ sm_ft, sm_fok e := (List.forall_mem_cons.mpr ⟨sm_f0, (List.forall_mem_cons.mpr ⟨sm_f1, (List.forall_mem_cons.mpr ⟨sm_f2, (List.forall_mem_cons.mpr ⟨sm_f3, (List.forall_mem_cons.mpr ⟨sm_f4, (List.forall_mem_cons.mpr ⟨sm_f5, (List.forall_mem_cons.mpr ⟨sm_f6, (List.forall_mem_cons.mpr ⟨sm_f7, (List.forall_mem_cons.mpr ⟨sm_f8, (List.forall_mem_cons.mpr ⟨sm_f9, (List.forall_mem_cons.mpr ⟨sm_f10, (List.forall_mem_cons.mpr ⟨sm_f11, (List.forall_mem_cons.mpr ⟨sm_f12, (List.forall_mem_cons.mpr ⟨sm_f13, (List.forall_mem_cons.mpr ⟨sm_f14, (List.forall_mem_cons.mpr ⟨sm_f15, (List.forall_mem_cons.mpr ⟨sm_f16, (List.forall_mem_cons.mpr ⟨sm_f17, (List.forall_mem_cons.mpr ⟨sm_f18, (List.forall_mem_cons.mpr ⟨sm_f19, (List.forall_mem_cons.mpr ⟨sm_f20, (List.forall_mem_cons.mpr ⟨sm_f21, (List.forall_mem_cons.mpr ⟨sm_f22, (List.forall_mem_cons.mpr ⟨sm_f23, (List.forall_mem_cons.mpr ⟨sm_f24, (List.forall_mem_cons.mpr ⟨sm_f25, (List.forall_mem_cons.mpr ⟨sm_f26, (List.forall_mem_cons.mpr ⟨sm_f27, (List.forall_mem_cons.mpr ⟨sm_f28, (List.forall_mem_cons.mpr ⟨sm_f29, (List.forall_mem_cons.mpr ⟨sm_f30, (List.forall_mem_cons.mpr ⟨sm_f31, (List.forall_mem_cons.mpr ⟨sm_f32, (List.forall_mem_cons.mpr ⟨sm_f33, (List.forall_mem_cons.mpr ⟨sm_f34, (List.forall_mem_cons.mpr ⟨sm_f35, (List.forall_mem_cons.mpr ⟨sm_f36, (List.forall_mem_cons.mpr ⟨sm_f37, (List.forall_mem_cons.mpr ⟨sm_f38, (List.forall_mem_cons.mpr ⟨sm_f39, (List.forall_mem_cons.mpr ⟨sm_f40, (List.forall_mem_cons.mpr ⟨sm_f41, (List.forall_mem_cons.mpr ⟨sm_f42, (List.forall_mem_cons.mpr ⟨sm_f43, (List.forall_mem_cons.mpr ⟨sm_f44, (List.forall_mem_cons.mpr ⟨sm_f45, (List.forall_mem_cons.mpr ⟨sm_f46, (List.forall_mem_cons.mpr ⟨sm_f47, (List.forall_mem_cons.mpr ⟨sm_f48, (List.forall_mem_cons.mpr ⟨sm_f49, (List.forall_mem_cons.mpr ⟨sm_f50, (List.forall_mem_cons.mpr ⟨sm_f51, (List.forall_mem_cons.mpr ⟨sm_f52, (List.forall_mem_cons.mpr ⟨sm_f53, (List.forall_mem_cons.mpr ⟨sm_f54, (List.forall_mem_cons.mpr ⟨sm_f55, (List.forall_mem_cons.mpr ⟨sm_f56, (List.forall_mem_cons.mpr ⟨sm_f57, (List.forall_mem_cons.mpr ⟨sm_f58, (List.forall_mem_cons.mpr ⟨sm_f59, (List.forall_mem_cons.mpr ⟨sm_f60, (List.forall_mem_cons.mpr ⟨sm_f61, (List.forall_mem_cons.mpr ⟨sm_f62, (List.forall_mem_cons.mpr ⟨sm_f63, (List.forall_mem_cons.mpr ⟨sm_f64, (List.forall_mem_cons.mpr ⟨sm_f65, (List.forall_mem_cons.mpr ⟨sm_f66, (List.forall_mem_cons.mpr ⟨sm_f67, (List.forall_mem_cons.mpr ⟨sm_f68, (List.forall_mem_cons.mpr ⟨sm_f69, (List.forall_mem_cons.mpr ⟨sm_f70, (List.forall_mem_cons.mpr ⟨sm_f71, (List.forall_mem_cons.mpr ⟨sm_f72, (List.forall_mem_cons.mpr ⟨sm_f73, (List.forall_mem_cons.mpr ⟨sm_f74, (List.forall_mem_cons.mpr ⟨sm_f75, (List.forall_mem_cons.mpr ⟨sm_f76, (List.forall_mem_cons.mpr ⟨sm_f77, (List.forall_mem_cons.mpr ⟨sm_f78, (List.forall_mem_cons.mpr ⟨sm_f79, (List.forall_mem_cons.mpr ⟨sm_f80, (List.forall_mem_cons.mpr ⟨sm_f81, (List.forall_mem_cons.mpr ⟨sm_f82, (fun _ h => absurd h List.not_mem_nil)⟩)⟩)⟩)⟩)⟩)⟩)⟩)⟩)⟩)⟩)⟩)⟩)⟩)⟩)⟩)⟩)⟩)⟩)⟩)⟩)⟩)⟩)⟩)⟩)⟩)⟩)⟩)⟩)⟩)⟩)⟩)⟩)⟩)⟩)⟩)⟩)⟩)⟩)⟩)⟩)⟩)⟩)⟩)⟩)⟩)⟩)⟩)⟩)⟩)⟩)⟩)⟩)⟩)⟩)⟩)⟩)⟩)⟩)⟩)⟩)⟩)⟩)⟩)⟩)⟩)⟩)⟩)⟩)⟩)⟩)⟩)⟩)⟩)⟩)⟩)⟩)⟩)⟩)⟩)⟩)⟩)⟩)⟩)
theorem sm_lay0 : ∀ w ∈ u_ws (sm_Rn 0) (sm_T 0) (sm_Nf 0), w ∈ sm_gw := by
  have e : u_ws (sm_Rn 0) (sm_T 0) (sm_Nf 0) = [120, 122, 124, 126].filterMap (fun i => tables_1[i]?) := by decide +kernel
  intro w hw
  have g : ∀ w ∈ u_ws (sm_Rn 0) (sm_T 0) (sm_Nf 0), goodWord w = true := by decide +kernel
  have hg := g w hw
  rw [e] at hw
  obtain ⟨i, -, hi⟩ := List.mem_filterMap.mp hw
  exact sm_mem i hi hg
theorem sm_lay1 : ∀ w ∈ u_ws (sm_Rn 1) (sm_T 1) (sm_Nf 1), w ∈ sm_gw := by
  have e : u_ws (sm_Rn 1) (sm_T 1) (sm_Nf 1) = [75, 77, 79, 81, 83, 85, 87, 89, 91, 93, 95, 97].filterMap (fun i => tables_1[i]?) := by decide +kernel
  intro w hw
  have g : ∀ w ∈ u_ws (sm_Rn 1) (sm_T 1) (sm_Nf 1), goodWord w = true := by decide +kernel
  have hg := g w hw
  rw [e] at hw
  obtain ⟨i, -, hi⟩ := List.mem_filterMap.mp hw
  exact sm_mem i hi hg
theorem sm_lay2 : ∀ w ∈ u_ws (sm_Rn 2) (sm_T 2) (sm_Nf 2), w ∈ sm_gw := by
  have e : u_ws (sm_Rn 2) (sm_T 2) (sm_Nf 2) = [154, 156, 158, 160, 162, 164, 166, 168, 170, 172, 174, 176, 178].filterMap (fun i => tables_1[i]?) := by decide +kernel
  intro w hw
  have g : ∀ w ∈ u_ws (sm_Rn 2) (sm_T 2) (sm_Nf 2), goodWord w = true := by decide +kernel
  have hg := g w hw
  rw [e] at hw
  obtain ⟨i, -, hi⟩ := List.mem_filterMap.mp hw
  exact sm_mem i hi hg
theorem sm_lay3 : ∀ w ∈ u_ws (sm_Rn 3) (sm_T 3) (sm_Nf 3), w ∈ sm_gw := by
  have e : u_ws (sm_Rn 3) (sm_T 3) (sm_Nf 3) = [33, 35, 37, 39].filterMap (fun i => tables_1[i]?) := by decide +kernel
  intro w hw
  have g : ∀ w ∈ u_ws (sm_Rn 3) (sm_T 3) (sm_Nf 3), goodWord w = true := by decide +kernel
  have hg := g w hw
  rw [e] at hw
  obtain ⟨i, -, hi⟩ := List.mem_filterMap.mp hw
  exact sm_mem i hi hg
theorem sm_lay4 : ∀ w ∈ u_ws (sm_Rn 4) (sm_T 4) (sm_Nf 4), w ∈ sm_gw := by
  have e : u_ws (sm_Rn 4) (sm_T 4) (sm_Nf 4) = [312, 314, 316, 318, 320, 322, 324].filterMap (fun i => tables_1[i]?) := by decide +kernel
  intro w hw
  have g : ∀ w ∈ u_ws (sm_Rn 4) (sm_T 4) (sm_Nf 4), goodWord w = true := by decide +kernel
  have hg := g w hw
  rw [e] at hw
  obtain ⟨i, -, hi⟩ := List.mem_filterMap.mp hw
  exact sm_mem i hi hg
theorem sm_lay5 : ∀ w ∈ u_ws (sm_Rn 5) (sm_T 5) (sm_Nf 5), w ∈ sm_gw := by
  have e : u_ws (sm_Rn 5) (sm_T 5) (sm_Nf 5) = [570, 572, 574, 576, 578, 580, 582, 584, 586, 588, 590, 592].filterMap (fun i => tables_1[i]?) := by decide +kernel
  intro w hw
  have g : ∀ w ∈ u_ws (sm_Rn 5) (sm_T 5) (sm_Nf 5), goodWord w = true := by decide +kernel
  have hg := g w hw
  rw [e] at hw
  obtain ⟨i, -, hi⟩ := List.mem_filterMap.mp hw
  exact sm_mem i hi hg
theorem sm_lay : ∀ c, c < 6 → ∀ w ∈ u_ws (sm_Rn c) (sm_T c) (sm_Nf c), w ∈ sm_gw
  | 0, _ => sm_lay0
  | 1, _ => sm_lay1
  | 2, _ => sm_lay2
  | 3, _ => sm_lay3
  | 4, _ => sm_lay4
  | 5, _ => sm_lay5
  | c + 6, h => absurd h (by omega)
theorem sm_vw : ∀ c, c < 6 → vwCl[c]? = some (sm_Rn c, sm_T c, sm_Nf c)
  | 0, _ => rfl
  | 1, _ => rfl
  | 2, _ => rfl
  | 3, _ => rfl
  | 4, _ => rfl
  | 5, _ => rfl
  | c + 6, h => absurd h (by omega)
theorem sm_nmok : ∀ c, c < 6 → ∀ a, a < sm_Nf c → ∀ b, b < sm_Nf c → a ≠ b → (sm_T c a).2.1 ≠ (sm_T c b).2.1
  | 0, _ => nmX0
  | 1, _ => nmX1
  | 2, _ => nmX2
  | 3, _ => nmX3
  | 4, _ => nmX4
  | 5, _ => nmX5
  | c + 6, h => absurd h (by omega)
theorem sm_tyok : ∀ c, c < 6 → ∀ k, k < sm_Nf c → parseFieldDescriptor (sm_T c k).2.2.1 = some (sm_ty c k)
  | 0, _ => tyX0_ok
  | 1, _ => tyX1_ok
  | 2, _ => tyX2_ok
  | 3, _ => tyX3_ok
  | 4, _ => tyX4_ok
  | 5, _ => tyX5_ok
  | c + 6, h => absurd h (by omega)
theorem sm_max_s : Cond.static Lib.Math.max.name ∈ sm_gw := sm_mem 300 (by decide +kernel) (by decide +kernel)
theorem sm_max_c : Cond.code Lib.Math.max.name Lib.Math.max.code 2 (some .int) ∈ sm_gw := sm_mem 301 (by decide +kernel) (by decide +kernel)
theorem sm_min_s : Cond.static Lib.Math.min.name ∈ sm_gw := sm_mem 417 (by decide +kernel) (by decide +kernel)
theorem sm_min_c : Cond.code Lib.Math.min.name Lib.Math.min.code 2 (some .int) ∈ sm_gw := sm_mem 418 (by decide +kernel) (by decide +kernel)
theorem sm_fm_s : Cond.static yJ9_floorMod_7cf53 ∈ sm_gw := sm_mem 303 (by decide +kernel) (by decide +kernel)
theorem sm_fm_c : Cond.code yJ9_floorMod_7cf53 cJ9_floorMod_7cf53 3 (some .int) ∈ sm_gw := sm_mem 304 (by decide +kernel) (by decide +kernel)
theorem sm_ma_i : Cond.initialized "java/lang/Math" ∈ sm_gw := sm_mem 10 (by decide +kernel) (by decide +kernel)
theorem sm_ac_n : Cond.native arraycopyName ∈ sm_gw := sm_mem 382 (by decide +kernel) (by decide +kernel)
theorem sm_ac_s : Cond.static arraycopyName ∈ sm_gw := sm_mem 381 (by decide +kernel) (by decide +kernel)
theorem sm_sy_i : Cond.initialized "java/lang/System" ∈ sm_gw := sm_mem 12 (by decide +kernel) (by decide +kernel)
def sm_nn : Nat → MethodName
  | 0 => arraycopyName
  | 1 => Lib.Math.max.name
  | 2 => Lib.Math.min.name
  | _ => yJ9_floorMod_7cf53
def sm_nok (e : Nat × Nat × Nat) : Prop := e.2.2 < 4 ∧ Cond.methodLink (sm_Rn e.1) e.2.1 (sm_nn e.2.2) ∈ sm_gw
theorem sm_n0 : sm_nok (0, 25, 0) := ⟨by decide, sm_mem 387 (by decide +kernel) (by decide +kernel)⟩
theorem sm_n1 : sm_nok (2, 53, 1) := ⟨by decide, sm_mem 299 (by decide +kernel) (by decide +kernel)⟩
theorem sm_n2 : sm_nok (2, 59, 3) := ⟨by decide, sm_mem 302 (by decide +kernel) (by decide +kernel)⟩
theorem sm_n3 : sm_nok (2, 78, 0) := ⟨by decide, sm_mem 380 (by decide +kernel) (by decide +kernel)⟩
theorem sm_n4 : sm_nok (2, 146, 2) := ⟨by decide, sm_mem 416 (by decide +kernel) (by decide +kernel)⟩
theorem sm_n5 : sm_nok (4, 196, 3) := ⟨by decide, sm_mem 448 (by decide +kernel) (by decide +kernel)⟩
theorem sm_nt_ok : ∀ e ∈ sm_nt, sm_nok e := (List.forall_mem_cons.mpr ⟨sm_n0, (List.forall_mem_cons.mpr ⟨sm_n1, (List.forall_mem_cons.mpr ⟨sm_n2, (List.forall_mem_cons.mpr ⟨sm_n3, (List.forall_mem_cons.mpr ⟨sm_n4, (List.forall_mem_cons.mpr ⟨sm_n5, (fun _ h => absurd h List.not_mem_nil)⟩)⟩)⟩)⟩)⟩)⟩)
def sm_kok (e : Nat × Nat × Int32) : Prop := Cond.constant (sm_Rn e.1) e.2.1 e.2.2 ∈ sm_gw
theorem sm_kk0 : sm_kok (6, 265, 1431655765) := sm_mem 523 (by decide +kernel) (by decide +kernel)
theorem sm_kk1 : sm_kok (6, 266, 858993459) := sm_mem 524 (by decide +kernel) (by decide +kernel)
theorem sm_kk2 : sm_kok (6, 267, 252645135) := sm_mem 525 (by decide +kernel) (by decide +kernel)
theorem sm_kt_ok : ∀ e ∈ sm_kt, sm_kok e := (List.forall_mem_cons.mpr ⟨sm_kk0, (List.forall_mem_cons.mpr ⟨sm_kk1, (List.forall_mem_cons.mpr ⟨sm_kk2, (fun _ h => absurd h List.not_mem_nil)⟩)⟩)⟩)
