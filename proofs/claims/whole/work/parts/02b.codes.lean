/-! each method's code word: by its place -/
set_option maxRecDepth 100000 in
theorem am_c0 : am_wd 79 = some (.code (am_y 0) (am_code 0) (am_mx 0) (am_rt 0)) := rfl
set_option maxRecDepth 100000 in
theorem am_c1 : am_wd 87 = some (.code (am_y 1) (am_code 1) (am_mx 1) (am_rt 1)) := rfl
set_option maxRecDepth 100000 in
theorem am_c2 : am_wd 93 = some (.code (am_y 2) (am_code 2) (am_mx 2) (am_rt 2)) := rfl
set_option maxRecDepth 100000 in
theorem am_c3 : am_wd 121 = some (.code (am_y 3) (am_code 3) (am_mx 3) (am_rt 3)) := rfl
set_option maxRecDepth 100000 in
theorem am_c4 : am_wd 151 = some (.code (am_y 4) (am_code 4) (am_mx 4) (am_rt 4)) := rfl
set_option maxRecDepth 100000 in
theorem am_c5 : am_wd 155 = some (.code (am_y 5) (am_code 5) (am_mx 5) (am_rt 5)) := rfl
set_option maxRecDepth 100000 in
theorem am_c6 : am_wd 229 = some (.code (am_y 6) (am_code 6) (am_mx 6) (am_rt 6)) := rfl
set_option maxRecDepth 100000 in
theorem am_c7 : am_wd 235 = some (.code (am_y 7) (am_code 7) (am_mx 7) (am_rt 7)) := rfl
set_option maxRecDepth 100000 in
theorem am_c8 : am_wd 281 = some (.code (am_y 8) (am_code 8) (am_mx 8) (am_rt 8)) := rfl
set_option maxRecDepth 100000 in
theorem am_c9 : am_wd 320 = some (.code (am_y 9) (am_code 9) (am_mx 9) (am_rt 9)) := rfl
set_option maxRecDepth 100000 in
theorem am_c10 : am_wd 364 = some (.code (am_y 10) (am_code 10) (am_mx 10) (am_rt 10)) := rfl
set_option maxRecDepth 100000 in
theorem am_c11 : am_wd 369 = some (.code (am_y 11) (am_code 11) (am_mx 11) (am_rt 11)) := rfl
set_option maxRecDepth 100000 in
theorem am_c12 : am_wd 372 = some (.code (am_y 12) (am_code 12) (am_mx 12) (am_rt 12)) := rfl
set_option maxRecDepth 100000 in
theorem am_c13 : am_wd 376 = some (.code (am_y 13) (am_code 13) (am_mx 13) (am_rt 13)) := rfl
set_option maxRecDepth 100000 in
theorem am_c14 : am_wd 380 = some (.code (am_y 14) (am_code 14) (am_mx 14) (am_rt 14)) := rfl
set_option maxRecDepth 100000 in
theorem am_c15 : am_wd 384 = some (.code (am_y 15) (am_code 15) (am_mx 15) (am_rt 15)) := rfl
set_option maxRecDepth 100000 in
theorem am_c16 : am_wd 388 = some (.code (am_y 16) (am_code 16) (am_mx 16) (am_rt 16)) := rfl
set_option maxRecDepth 100000 in
theorem am_c17 : am_wd 392 = some (.code (am_y 17) (am_code 17) (am_mx 17) (am_rt 17)) := rfl
set_option maxRecDepth 100000 in
theorem am_c18 : am_wd 396 = some (.code (am_y 18) (am_code 18) (am_mx 18) (am_rt 18)) := rfl
set_option maxRecDepth 100000 in
theorem am_c19 : am_wd 399 = some (.code (am_y 19) (am_code 19) (am_mx 19) (am_rt 19)) := rfl
set_option maxRecDepth 100000 in
theorem am_c20 : am_wd 403 = some (.code (am_y 20) (am_code 20) (am_mx 20) (am_rt 20)) := rfl
set_option maxRecDepth 100000 in
theorem am_c21 : am_wd 407 = some (.code (am_y 21) (am_code 21) (am_mx 21) (am_rt 21)) := rfl
set_option maxRecDepth 100000 in
theorem am_c22 : am_wd 411 = some (.code (am_y 22) (am_code 22) (am_mx 22) (am_rt 22)) := rfl
set_option maxRecDepth 100000 in
theorem am_c23 : am_wd 414 = some (.code (am_y 23) (am_code 23) (am_mx 23) (am_rt 23)) := rfl
set_option maxRecDepth 100000 in
theorem am_c24 : am_wd 418 = some (.code (am_y 24) (am_code 24) (am_mx 24) (am_rt 24)) := rfl
set_option maxRecDepth 100000 in
theorem am_c25 : am_wd 422 = some (.code (am_y 25) (am_code 25) (am_mx 25) (am_rt 25)) := rfl
set_option maxRecDepth 100000 in
theorem am_c26 : am_wd 426 = some (.code (am_y 26) (am_code 26) (am_mx 26) (am_rt 26)) := rfl
set_option maxRecDepth 100000 in
theorem am_c27 : am_wd 430 = some (.code (am_y 27) (am_code 27) (am_mx 27) (am_rt 27)) := rfl
set_option maxRecDepth 100000 in
theorem am_c28 : am_wd 434 = some (.code (am_y 28) (am_code 28) (am_mx 28) (am_rt 28)) := rfl
set_option maxRecDepth 100000 in
theorem am_c29 : am_wd 438 = some (.code (am_y 29) (am_code 29) (am_mx 29) (am_rt 29)) := rfl
set_option maxRecDepth 100000 in
theorem am_c30 : am_wd 442 = some (.code (am_y 30) (am_code 30) (am_mx 30) (am_rt 30)) := rfl
set_option maxRecDepth 100000 in
theorem am_c31 : am_wd 446 = some (.code (am_y 31) (am_code 31) (am_mx 31) (am_rt 31)) := rfl
set_option maxRecDepth 100000 in
theorem am_c32 : am_wd 451 = some (.code (am_y 32) (am_code 32) (am_mx 32) (am_rt 32)) := rfl
set_option maxRecDepth 100000 in
theorem am_c33 : am_wd 454 = some (.code (am_y 33) (am_code 33) (am_mx 33) (am_rt 33)) := rfl
set_option maxRecDepth 100000 in
theorem am_c34 : am_wd 457 = some (.code (am_y 34) (am_code 34) (am_mx 34) (am_rt 34)) := rfl
set_option maxRecDepth 100000 in
theorem am_c35 : am_wd 461 = some (.code (am_y 35) (am_code 35) (am_mx 35) (am_rt 35)) := rfl
set_option maxRecDepth 100000 in
theorem am_c36 : am_wd 465 = some (.code (am_y 36) (am_code 36) (am_mx 36) (am_rt 36)) := rfl
set_option maxRecDepth 100000 in
theorem am_c37 : am_wd 470 = some (.code (am_y 37) (am_code 37) (am_mx 37) (am_rt 37)) := rfl
set_option maxRecDepth 100000 in
theorem am_c38 : am_wd 527 = some (.code (am_y 38) (am_code 38) (am_mx 38) (am_rt 38)) := rfl
set_option maxRecDepth 100000 in
theorem am_c39 : am_wd 531 = some (.code (am_y 39) (am_code 39) (am_mx 39) (am_rt 39)) := rfl
set_option maxRecDepth 100000 in
theorem am_c40 : am_wd 535 = some (.code (am_y 40) (am_code 40) (am_mx 40) (am_rt 40)) := rfl
set_option maxRecDepth 100000 in
theorem am_c41 : am_wd 540 = some (.code (am_y 41) (am_code 41) (am_mx 41) (am_rt 41)) := rfl
set_option maxRecDepth 100000 in
theorem am_c42 : am_wd 545 = some (.code (am_y 42) (am_code 42) (am_mx 42) (am_rt 42)) := rfl
set_option maxRecDepth 100000 in
theorem am_c43 : am_wd 550 = some (.code (am_y 43) (am_code 43) (am_mx 43) (am_rt 43)) := rfl
set_option maxRecDepth 100000 in
theorem am_c44 : am_wd 554 = some (.code (am_y 44) (am_code 44) (am_mx 44) (am_rt 44)) := rfl
set_option maxRecDepth 100000 in
theorem am_c45 : am_wd 558 = some (.code (am_y 45) (am_code 45) (am_mx 45) (am_rt 45)) := rfl
set_option maxRecDepth 100000 in
theorem am_c46 : am_wd 563 = some (.code (am_y 46) (am_code 46) (am_mx 46) (am_rt 46)) := rfl
set_option maxRecDepth 100000 in
theorem am_c47 : am_wd 570 = some (.code (am_y 47) (am_code 47) (am_mx 47) (am_rt 47)) := rfl
set_option maxRecDepth 100000 in
theorem am_c48 : am_wd 575 = some (.code (am_y 48) (am_code 48) (am_mx 48) (am_rt 48)) := rfl
set_option maxRecDepth 100000 in
theorem am_c49 : am_wd 581 = some (.code (am_y 49) (am_code 49) (am_mx 49) (am_rt 49)) := rfl
set_option maxRecDepth 100000 in
theorem am_c50 : am_wd 585 = some (.code (am_y 50) (am_code 50) (am_mx 50) (am_rt 50)) := rfl
set_option maxRecDepth 100000 in
theorem am_c51 : am_wd 589 = some (.code (am_y 51) (am_code 51) (am_mx 51) (am_rt 51)) := rfl
set_option maxRecDepth 100000 in
theorem am_c52 : am_wd 593 = some (.code (am_y 52) (am_code 52) (am_mx 52) (am_rt 52)) := rfl
set_option maxRecDepth 100000 in
theorem am_c53 : am_wd 597 = some (.code (am_y 53) (am_code 53) (am_mx 53) (am_rt 53)) := rfl
set_option maxRecDepth 100000 in
theorem am_c54 : am_wd 601 = some (.code (am_y 54) (am_code 54) (am_mx 54) (am_rt 54)) := rfl
set_option maxRecDepth 100000 in
theorem am_c55 : am_wd 604 = some (.code (am_y 55) (am_code 55) (am_mx 55) (am_rt 55)) := rfl
set_option maxRecDepth 100000 in
theorem am_c56 : am_wd 608 = some (.code (am_y 56) (am_code 56) (am_mx 56) (am_rt 56)) := rfl
set_option maxRecDepth 100000 in
theorem am_c57 : am_wd 612 = some (.code (am_y 57) (am_code 57) (am_mx 57) (am_rt 57)) := rfl
set_option maxRecDepth 100000 in
theorem am_c58 : am_wd 617 = some (.code (am_y 58) (am_code 58) (am_mx 58) (am_rt 58)) := rfl
set_option maxRecDepth 100000 in
theorem am_c59 : am_wd 620 = some (.code (am_y 59) (am_code 59) (am_mx 59) (am_rt 59)) := rfl
set_option maxRecDepth 100000 in
theorem am_c60 : am_wd 624 = some (.code (am_y 60) (am_code 60) (am_mx 60) (am_rt 60)) := rfl
set_option maxRecDepth 100000 in
theorem am_c61 : am_wd 629 = some (.code (am_y 61) (am_code 61) (am_mx 61) (am_rt 61)) := rfl
set_option maxRecDepth 100000 in
theorem am_c62 : am_wd 633 = some (.code (am_y 62) (am_code 62) (am_mx 62) (am_rt 62)) := rfl
set_option maxRecDepth 100000 in
theorem am_c63 : am_wd 637 = some (.code (am_y 63) (am_code 63) (am_mx 63) (am_rt 63)) := rfl
set_option maxRecDepth 100000 in
theorem am_c64 : am_wd 641 = some (.code (am_y 64) (am_code 64) (am_mx 64) (am_rt 64)) := rfl
set_option maxRecDepth 100000 in
theorem am_c65 : am_wd 645 = some (.code (am_y 65) (am_code 65) (am_mx 65) (am_rt 65)) := rfl
set_option maxRecDepth 100000 in
theorem am_c66 : am_wd 648 = some (.code (am_y 66) (am_code 66) (am_mx 66) (am_rt 66)) := rfl
set_option maxRecDepth 100000 in
theorem am_c67 : am_wd 653 = some (.code (am_y 67) (am_code 67) (am_mx 67) (am_rt 67)) := rfl
set_option maxRecDepth 100000 in
theorem am_c68 : am_wd 658 = some (.code (am_y 68) (am_code 68) (am_mx 68) (am_rt 68)) := rfl
set_option maxRecDepth 100000 in
theorem am_c69 : am_wd 662 = some (.code (am_y 69) (am_code 69) (am_mx 69) (am_rt 69)) := rfl
set_option maxRecDepth 100000 in
theorem am_c70 : am_wd 666 = some (.code (am_y 70) (am_code 70) (am_mx 70) (am_rt 70)) := rfl
set_option maxRecDepth 100000 in
theorem am_c71 : am_wd 670 = some (.code (am_y 71) (am_code 71) (am_mx 71) (am_rt 71)) := rfl
set_option maxRecDepth 100000 in
theorem am_c72 : am_wd 674 = some (.code (am_y 72) (am_code 72) (am_mx 72) (am_rt 72)) := rfl
set_option maxRecDepth 100000 in
theorem am_c73 : am_wd 678 = some (.code (am_y 73) (am_code 73) (am_mx 73) (am_rt 73)) := rfl
set_option maxRecDepth 100000 in
theorem am_c74 : am_wd 682 = some (.code (am_y 74) (am_code 74) (am_mx 74) (am_rt 74)) := rfl
set_option maxRecDepth 100000 in
theorem am_c75 : am_wd 686 = some (.code (am_y 75) (am_code 75) (am_mx 75) (am_rt 75)) := rfl
set_option maxRecDepth 100000 in
theorem am_c76 : am_wd 690 = some (.code (am_y 76) (am_code 76) (am_mx 76) (am_rt 76)) := rfl
set_option maxRecDepth 100000 in
theorem am_c77 : am_wd 694 = some (.code (am_y 77) (am_code 77) (am_mx 77) (am_rt 77)) := rfl
set_option maxRecDepth 100000 in
theorem am_c78 : am_wd 698 = some (.code (am_y 78) (am_code 78) (am_mx 78) (am_rt 78)) := rfl
set_option maxRecDepth 100000 in
theorem am_c79 : am_wd 702 = some (.code (am_y 79) (am_code 79) (am_mx 79) (am_rt 79)) := rfl
set_option maxRecDepth 100000 in
theorem am_c80 : am_wd 706 = some (.code (am_y 80) (am_code 80) (am_mx 80) (am_rt 80)) := rfl
set_option maxRecDepth 100000 in
theorem am_c81 : am_wd 710 = some (.code (am_y 81) (am_code 81) (am_mx 81) (am_rt 81)) := rfl
set_option maxRecDepth 100000 in
theorem am_c82 : am_wd 714 = some (.code (am_y 82) (am_code 82) (am_mx 82) (am_rt 82)) := rfl
set_option maxRecDepth 100000 in
theorem am_c83 : am_wd 718 = some (.code (am_y 83) (am_code 83) (am_mx 83) (am_rt 83)) := rfl
set_option maxRecDepth 100000 in
theorem am_c84 : am_wd 723 = some (.code (am_y 84) (am_code 84) (am_mx 84) (am_rt 84)) := rfl
set_option maxRecDepth 100000 in
theorem am_c85 : am_wd 727 = some (.code (am_y 85) (am_code 85) (am_mx 85) (am_rt 85)) := rfl
set_option maxRecDepth 100000 in
theorem am_c86 : am_wd 731 = some (.code (am_y 86) (am_code 86) (am_mx 86) (am_rt 86)) := rfl
set_option maxRecDepth 100000 in
theorem am_c87 : am_wd 736 = some (.code (am_y 87) (am_code 87) (am_mx 87) (am_rt 87)) := rfl
set_option maxRecDepth 100000 in
theorem am_c88 : am_wd 740 = some (.code (am_y 88) (am_code 88) (am_mx 88) (am_rt 88)) := rfl
set_option maxRecDepth 100000 in
theorem am_c89 : am_wd 744 = some (.code (am_y 89) (am_code 89) (am_mx 89) (am_rt 89)) := rfl
set_option maxRecDepth 100000 in
theorem am_c90 : am_wd 748 = some (.code (am_y 90) (am_code 90) (am_mx 90) (am_rt 90)) := rfl
set_option maxRecDepth 100000 in
theorem am_c91 : am_wd 752 = some (.code (am_y 91) (am_code 91) (am_mx 91) (am_rt 91)) := rfl
set_option maxRecDepth 100000 in
theorem am_c92 : am_wd 756 = some (.code (am_y 92) (am_code 92) (am_mx 92) (am_rt 92)) := rfl
set_option maxRecDepth 100000 in
theorem am_c93 : am_wd 759 = some (.code (am_y 93) (am_code 93) (am_mx 93) (am_rt 93)) := rfl
set_option maxRecDepth 100000 in
theorem am_c94 : am_wd 766 = some (.code (am_y 94) (am_code 94) (am_mx 94) (am_rt 94)) := rfl
set_option maxRecDepth 100000 in
theorem am_c95 : am_wd 770 = some (.code (am_y 95) (am_code 95) (am_mx 95) (am_rt 95)) := rfl
set_option maxRecDepth 100000 in
theorem am_c96 : am_wd 774 = some (.code (am_y 96) (am_code 96) (am_mx 96) (am_rt 96)) := rfl
set_option maxRecDepth 100000 in
theorem am_c97 : am_wd 780 = some (.code (am_y 97) (am_code 97) (am_mx 97) (am_rt 97)) := rfl
set_option maxRecDepth 100000 in
theorem am_c98 : am_wd 784 = some (.code (am_y 98) (am_code 98) (am_mx 98) (am_rt 98)) := rfl
set_option maxRecDepth 100000 in
theorem am_c99 : am_wd 787 = some (.code (am_y 99) (am_code 99) (am_mx 99) (am_rt 99)) := rfl
set_option maxRecDepth 100000 in
theorem am_c100 : am_wd 791 = some (.code (am_y 100) (am_code 100) (am_mx 100) (am_rt 100)) := rfl
set_option maxRecDepth 100000 in
theorem am_c101 : am_wd 795 = some (.code (am_y 101) (am_code 101) (am_mx 101) (am_rt 101)) := rfl
set_option maxRecDepth 100000 in
theorem am_c102 : am_wd 798 = some (.code (am_y 102) (am_code 102) (am_mx 102) (am_rt 102)) := rfl
set_option maxRecDepth 100000 in
theorem am_c103 : am_wd 802 = some (.code (am_y 103) (am_code 103) (am_mx 103) (am_rt 103)) := rfl
set_option maxRecDepth 100000 in
theorem am_c104 : am_wd 806 = some (.code (am_y 104) (am_code 104) (am_mx 104) (am_rt 104)) := rfl
set_option maxRecDepth 100000 in
theorem am_c105 : am_wd 810 = some (.code (am_y 105) (am_code 105) (am_mx 105) (am_rt 105)) := rfl
set_option maxRecDepth 100000 in
theorem am_c106 : am_wd 814 = some (.code (am_y 106) (am_code 106) (am_mx 106) (am_rt 106)) := rfl
set_option maxRecDepth 100000 in
theorem am_c107 : am_wd 818 = some (.code (am_y 107) (am_code 107) (am_mx 107) (am_rt 107)) := rfl
set_option maxRecDepth 100000 in
theorem am_c108 : am_wd 821 = some (.code (am_y 108) (am_code 108) (am_mx 108) (am_rt 108)) := rfl
set_option maxRecDepth 100000 in
theorem am_c109 : am_wd 826 = some (.code (am_y 109) (am_code 109) (am_mx 109) (am_rt 109)) := rfl
set_option maxRecDepth 100000 in
theorem am_c110 : am_wd 830 = some (.code (am_y 110) (am_code 110) (am_mx 110) (am_rt 110)) := rfl
set_option maxRecDepth 100000 in
theorem am_c111 : am_wd 834 = some (.code (am_y 111) (am_code 111) (am_mx 111) (am_rt 111)) := rfl
set_option maxRecDepth 100000 in
theorem am_c112 : am_wd 838 = some (.code (am_y 112) (am_code 112) (am_mx 112) (am_rt 112)) := rfl
set_option maxRecDepth 100000 in
theorem am_c113 : am_wd 845 = some (.code (am_y 113) (am_code 113) (am_mx 113) (am_rt 113)) := rfl
set_option maxRecDepth 100000 in
theorem am_c114 : am_wd 849 = some (.code (am_y 114) (am_code 114) (am_mx 114) (am_rt 114)) := rfl
set_option maxRecDepth 100000 in
theorem am_c115 : am_wd 852 = some (.code (am_y 115) (am_code 115) (am_mx 115) (am_rt 115)) := rfl
set_option maxRecDepth 100000 in
theorem am_c116 : am_wd 855 = some (.code (am_y 116) (am_code 116) (am_mx 116) (am_rt 116)) := rfl
set_option maxRecDepth 100000 in
theorem am_c117 : am_wd 858 = some (.code (am_y 117) (am_code 117) (am_mx 117) (am_rt 117)) := rfl
set_option maxRecDepth 100000 in
theorem am_c118 : am_wd 862 = some (.code (am_y 118) (am_code 118) (am_mx 118) (am_rt 118)) := rfl
set_option maxRecDepth 100000 in
theorem am_c119 : am_wd 867 = some (.code (am_y 119) (am_code 119) (am_mx 119) (am_rt 119)) := rfl
set_option maxRecDepth 100000 in
theorem am_c120 : am_wd 878 = some (.code (am_y 120) (am_code 120) (am_mx 120) (am_rt 120)) := rfl
set_option maxRecDepth 100000 in
theorem am_c121 : am_wd 883 = some (.code (am_y 121) (am_code 121) (am_mx 121) (am_rt 121)) := rfl
set_option maxRecDepth 100000 in
theorem am_c122 : am_wd 887 = some (.code (am_y 122) (am_code 122) (am_mx 122) (am_rt 122)) := rfl
set_option maxRecDepth 100000 in
theorem am_c123 : am_wd 890 = some (.code (am_y 123) (am_code 123) (am_mx 123) (am_rt 123)) := rfl
set_option maxRecDepth 100000 in
theorem am_c124 : am_wd 894 = some (.code (am_y 124) (am_code 124) (am_mx 124) (am_rt 124)) := rfl
set_option maxRecDepth 100000 in
theorem am_c125 : am_wd 898 = some (.code (am_y 125) (am_code 125) (am_mx 125) (am_rt 125)) := rfl
set_option maxRecDepth 100000 in
theorem am_c126 : am_wd 902 = some (.code (am_y 126) (am_code 126) (am_mx 126) (am_rt 126)) := rfl
set_option maxRecDepth 100000 in
theorem am_c127 : am_wd 907 = some (.code (am_y 127) (am_code 127) (am_mx 127) (am_rt 127)) := rfl
set_option maxRecDepth 100000 in
theorem am_c128 : am_wd 912 = some (.code (am_y 128) (am_code 128) (am_mx 128) (am_rt 128)) := rfl
set_option maxRecDepth 100000 in
theorem am_c129 : am_wd 917 = some (.code (am_y 129) (am_code 129) (am_mx 129) (am_rt 129)) := rfl
set_option maxRecDepth 100000 in
theorem am_c130 : am_wd 922 = some (.code (am_y 130) (am_code 130) (am_mx 130) (am_rt 130)) := rfl
set_option maxRecDepth 100000 in
theorem am_c131 : am_wd 926 = some (.code (am_y 131) (am_code 131) (am_mx 131) (am_rt 131)) := rfl
set_option maxRecDepth 100000 in
theorem am_c132 : am_wd 930 = some (.code (am_y 132) (am_code 132) (am_mx 132) (am_rt 132)) := rfl
set_option maxRecDepth 100000 in
theorem am_c133 : am_wd 934 = some (.code (am_y 133) (am_code 133) (am_mx 133) (am_rt 133)) := rfl
set_option maxRecDepth 100000 in
theorem am_c134 : am_wd 940 = some (.code (am_y 134) (am_code 134) (am_mx 134) (am_rt 134)) := rfl
set_option maxRecDepth 100000 in
theorem am_c135 : am_wd 944 = some (.code (am_y 135) (am_code 135) (am_mx 135) (am_rt 135)) := rfl
set_option maxRecDepth 100000 in
theorem am_c136 : am_wd 1010 = some (.code (am_y 136) (am_code 136) (am_mx 136) (am_rt 136)) := rfl
set_option maxRecDepth 100000 in
theorem am_c137 : am_wd 1014 = some (.code (am_y 137) (am_code 137) (am_mx 137) (am_rt 137)) := rfl
set_option maxRecDepth 100000 in
theorem am_c138 : am_wd 1018 = some (.code (am_y 138) (am_code 138) (am_mx 138) (am_rt 138)) := rfl
set_option maxRecDepth 100000 in
theorem am_c139 : am_wd 1023 = some (.code (am_y 139) (am_code 139) (am_mx 139) (am_rt 139)) := rfl
set_option maxRecDepth 100000 in
theorem am_c140 : am_wd 1027 = some (.code (am_y 140) (am_code 140) (am_mx 140) (am_rt 140)) := rfl
set_option maxRecDepth 100000 in
theorem am_c141 : am_wd 1030 = some (.code (am_y 141) (am_code 141) (am_mx 141) (am_rt 141)) := rfl
set_option maxRecDepth 100000 in
theorem am_c142 : am_wd 1034 = some (.code (am_y 142) (am_code 142) (am_mx 142) (am_rt 142)) := rfl
set_option maxRecDepth 100000 in
theorem am_c143 : am_wd 1038 = some (.code (am_y 143) (am_code 143) (am_mx 143) (am_rt 143)) := rfl
set_option maxRecDepth 100000 in
theorem am_c144 : am_wd 1042 = some (.code (am_y 144) (am_code 144) (am_mx 144) (am_rt 144)) := rfl
set_option maxRecDepth 100000 in
theorem am_c145 : am_wd 1045 = some (.code (am_y 145) (am_code 145) (am_mx 145) (am_rt 145)) := rfl
set_option maxRecDepth 100000 in
theorem am_c146 : am_wd 1049 = some (.code (am_y 146) (am_code 146) (am_mx 146) (am_rt 146)) := rfl
set_option maxRecDepth 100000 in
theorem am_c147 : am_wd 1054 = some (.code (am_y 147) (am_code 147) (am_mx 147) (am_rt 147)) := rfl
set_option maxRecDepth 100000 in
theorem am_c148 : am_wd 1058 = some (.code (am_y 148) (am_code 148) (am_mx 148) (am_rt 148)) := rfl
set_option maxRecDepth 100000 in
theorem am_c149 : am_wd 1062 = some (.code (am_y 149) (am_code 149) (am_mx 149) (am_rt 149)) := rfl
set_option maxRecDepth 100000 in
theorem am_c150 : am_wd 1066 = some (.code (am_y 150) (am_code 150) (am_mx 150) (am_rt 150)) := rfl
set_option maxRecDepth 100000 in
theorem am_c151 : am_wd 1071 = some (.code (am_y 151) (am_code 151) (am_mx 151) (am_rt 151)) := rfl
set_option maxRecDepth 100000 in
theorem am_c152 : am_wd 1075 = some (.code (am_y 152) (am_code 152) (am_mx 152) (am_rt 152)) := rfl
set_option maxRecDepth 100000 in
theorem am_c153 : am_wd 1079 = some (.code (am_y 153) (am_code 153) (am_mx 153) (am_rt 153)) := rfl
set_option maxRecDepth 100000 in
theorem am_c154 : am_wd 1083 = some (.code (am_y 154) (am_code 154) (am_mx 154) (am_rt 154)) := rfl
set_option maxRecDepth 100000 in
theorem am_c155 : am_wd 1087 = some (.code (am_y 155) (am_code 155) (am_mx 155) (am_rt 155)) := rfl
set_option maxRecDepth 100000 in
theorem am_c156 : am_wd 1092 = some (.code (am_y 156) (am_code 156) (am_mx 156) (am_rt 156)) := rfl
set_option maxRecDepth 100000 in
theorem am_c157 : am_wd 1103 = some (.code (am_y 157) (am_code 157) (am_mx 157) (am_rt 157)) := rfl
set_option maxRecDepth 100000 in
theorem am_c158 : am_wd 1107 = some (.code (am_y 158) (am_code 158) (am_mx 158) (am_rt 158)) := rfl
set_option maxRecDepth 100000 in
theorem am_c159 : am_wd 1111 = some (.code (am_y 159) (am_code 159) (am_mx 159) (am_rt 159)) := rfl
set_option maxRecDepth 100000 in
theorem am_c160 : am_wd 1115 = some (.code (am_y 160) (am_code 160) (am_mx 160) (am_rt 160)) := rfl
set_option maxRecDepth 100000 in
theorem am_c161 : am_wd 1122 = some (.code (am_y 161) (am_code 161) (am_mx 161) (am_rt 161)) := rfl
set_option maxRecDepth 100000 in
theorem am_c162 : am_wd 1126 = some (.code (am_y 162) (am_code 162) (am_mx 162) (am_rt 162)) := rfl
set_option maxRecDepth 100000 in
theorem am_c163 : am_wd 1130 = some (.code (am_y 163) (am_code 163) (am_mx 163) (am_rt 163)) := rfl
set_option maxRecDepth 100000 in
theorem am_c164 : am_wd 1133 = some (.code (am_y 164) (am_code 164) (am_mx 164) (am_rt 164)) := rfl
set_option maxRecDepth 100000 in
theorem am_c165 : am_wd 1137 = some (.code (am_y 165) (am_code 165) (am_mx 165) (am_rt 165)) := rfl
set_option maxRecDepth 100000 in
theorem am_c166 : am_wd 1141 = some (.code (am_y 166) (am_code 166) (am_mx 166) (am_rt 166)) := rfl
set_option maxRecDepth 100000 in
theorem am_c167 : am_wd 1145 = some (.code (am_y 167) (am_code 167) (am_mx 167) (am_rt 167)) := rfl
set_option maxRecDepth 100000 in
theorem am_c168 : am_wd 1149 = some (.code (am_y 168) (am_code 168) (am_mx 168) (am_rt 168)) := rfl
set_option maxRecDepth 100000 in
theorem am_c169 : am_wd 1153 = some (.code (am_y 169) (am_code 169) (am_mx 169) (am_rt 169)) := rfl
set_option maxRecDepth 100000 in
theorem am_c170 : am_wd 1156 = some (.code (am_y 170) (am_code 170) (am_mx 170) (am_rt 170)) := rfl
set_option maxRecDepth 100000 in
theorem am_c171 : am_wd 1159 = some (.code (am_y 171) (am_code 171) (am_mx 171) (am_rt 171)) := rfl
set_option maxRecDepth 100000 in
theorem am_c172 : am_wd 1163 = some (.code (am_y 172) (am_code 172) (am_mx 172) (am_rt 172)) := rfl
set_option maxRecDepth 100000 in
theorem am_c173 : am_wd 1167 = some (.code (am_y 173) (am_code 173) (am_mx 173) (am_rt 173)) := rfl
set_option maxRecDepth 100000 in
theorem am_c174 : am_wd 1171 = some (.code (am_y 174) (am_code 174) (am_mx 174) (am_rt 174)) := rfl
set_option maxRecDepth 100000 in
theorem am_c175 : am_wd 1175 = some (.code (am_y 175) (am_code 175) (am_mx 175) (am_rt 175)) := rfl
set_option maxRecDepth 100000 in
theorem am_c176 : am_wd 1179 = some (.code (am_y 176) (am_code 176) (am_mx 176) (am_rt 176)) := rfl
set_option maxRecDepth 100000 in
theorem am_c177 : am_wd 1183 = some (.code (am_y 177) (am_code 177) (am_mx 177) (am_rt 177)) := rfl
set_option maxRecDepth 100000 in
theorem am_c178 : am_wd 1187 = some (.code (am_y 178) (am_code 178) (am_mx 178) (am_rt 178)) := rfl
set_option maxRecDepth 100000 in
theorem am_c179 : am_wd 1191 = some (.code (am_y 179) (am_code 179) (am_mx 179) (am_rt 179)) := rfl
set_option maxRecDepth 100000 in
theorem am_c180 : am_wd 1195 = some (.code (am_y 180) (am_code 180) (am_mx 180) (am_rt 180)) := rfl
set_option maxRecDepth 100000 in
theorem am_c181 : am_wd 1198 = some (.code (am_y 181) (am_code 181) (am_mx 181) (am_rt 181)) := rfl
set_option maxRecDepth 100000 in
theorem am_c182 : am_wd 1202 = some (.code (am_y 182) (am_code 182) (am_mx 182) (am_rt 182)) := rfl
set_option maxRecDepth 100000 in
theorem am_c183 : am_wd 1206 = some (.code (am_y 183) (am_code 183) (am_mx 183) (am_rt 183)) := rfl
set_option maxRecDepth 100000 in
theorem am_c184 : am_wd 1210 = some (.code (am_y 184) (am_code 184) (am_mx 184) (am_rt 184)) := rfl
set_option maxRecDepth 100000 in
theorem am_c185 : am_wd 1214 = some (.code (am_y 185) (am_code 185) (am_mx 185) (am_rt 185)) := rfl
set_option maxRecDepth 100000 in
theorem am_c186 : am_wd 1218 = some (.code (am_y 186) (am_code 186) (am_mx 186) (am_rt 186)) := rfl
set_option maxRecDepth 100000 in
theorem am_c187 : am_wd 1222 = some (.code (am_y 187) (am_code 187) (am_mx 187) (am_rt 187)) := rfl
set_option maxRecDepth 100000 in
theorem am_c188 : am_wd 1226 = some (.code (am_y 188) (am_code 188) (am_mx 188) (am_rt 188)) := rfl
set_option maxRecDepth 100000 in
theorem am_c189 : am_wd 1232 = some (.code (am_y 189) (am_code 189) (am_mx 189) (am_rt 189)) := rfl
set_option maxRecDepth 100000 in
theorem am_c190 : am_wd 1236 = some (.code (am_y 190) (am_code 190) (am_mx 190) (am_rt 190)) := rfl
set_option maxRecDepth 100000 in
theorem am_c191 : am_wd 1240 = some (.code (am_y 191) (am_code 191) (am_mx 191) (am_rt 191)) := rfl
set_option maxRecDepth 100000 in
theorem am_c192 : am_wd 1244 = some (.code (am_y 192) (am_code 192) (am_mx 192) (am_rt 192)) := rfl
set_option maxRecDepth 100000 in
theorem am_c193 : am_wd 1248 = some (.code (am_y 193) (am_code 193) (am_mx 193) (am_rt 193)) := rfl
set_option maxRecDepth 100000 in
theorem am_c194 : am_wd 1252 = some (.code (am_y 194) (am_code 194) (am_mx 194) (am_rt 194)) := rfl
set_option maxRecDepth 100000 in
theorem am_c195 : am_wd 1258 = some (.code (am_y 195) (am_code 195) (am_mx 195) (am_rt 195)) := rfl
set_option maxRecDepth 100000 in
theorem am_c196 : am_wd 1268 = some (.code (am_y 196) (am_code 196) (am_mx 196) (am_rt 196)) := rfl
set_option maxRecDepth 100000 in
theorem am_c197 : am_wd 1272 = some (.code (am_y 197) (am_code 197) (am_mx 197) (am_rt 197)) := rfl
set_option maxRecDepth 100000 in
theorem am_c198 : am_wd 1276 = some (.code (am_y 198) (am_code 198) (am_mx 198) (am_rt 198)) := rfl
set_option maxRecDepth 100000 in
theorem am_c199 : am_wd 1280 = some (.code (am_y 199) (am_code 199) (am_mx 199) (am_rt 199)) := rfl
set_option maxRecDepth 100000 in
theorem am_c200 : am_wd 1284 = some (.code (am_y 200) (am_code 200) (am_mx 200) (am_rt 200)) := rfl
set_option maxRecDepth 100000 in
theorem am_c201 : am_wd 1288 = some (.code (am_y 201) (am_code 201) (am_mx 201) (am_rt 201)) := rfl
set_option maxRecDepth 100000 in
theorem am_c202 : am_wd 1293 = some (.code (am_y 202) (am_code 202) (am_mx 202) (am_rt 202)) := rfl
set_option maxRecDepth 100000 in
theorem am_c203 : am_wd 1297 = some (.code (am_y 203) (am_code 203) (am_mx 203) (am_rt 203)) := rfl
theorem am_okC : ∀ k, k < am_N → am_wd (am_m k).2.2.2.2.2 = some (.code (am_y k) (am_code k) (am_mx k) (am_rt k)) := by
  intro k h
  match k, h with
  | 0, _ => exact am_c0
  | 1, _ => exact am_c1
  | 2, _ => exact am_c2
  | 3, _ => exact am_c3
  | 4, _ => exact am_c4
  | 5, _ => exact am_c5
  | 6, _ => exact am_c6
  | 7, _ => exact am_c7
  | 8, _ => exact am_c8
  | 9, _ => exact am_c9
  | 10, _ => exact am_c10
  | 11, _ => exact am_c11
  | 12, _ => exact am_c12
  | 13, _ => exact am_c13
  | 14, _ => exact am_c14
  | 15, _ => exact am_c15
  | 16, _ => exact am_c16
  | 17, _ => exact am_c17
  | 18, _ => exact am_c18
  | 19, _ => exact am_c19
  | 20, _ => exact am_c20
  | 21, _ => exact am_c21
  | 22, _ => exact am_c22
  | 23, _ => exact am_c23
  | 24, _ => exact am_c24
  | 25, _ => exact am_c25
  | 26, _ => exact am_c26
  | 27, _ => exact am_c27
  | 28, _ => exact am_c28
  | 29, _ => exact am_c29
  | 30, _ => exact am_c30
  | 31, _ => exact am_c31
  | 32, _ => exact am_c32
  | 33, _ => exact am_c33
  | 34, _ => exact am_c34
  | 35, _ => exact am_c35
  | 36, _ => exact am_c36
  | 37, _ => exact am_c37
  | 38, _ => exact am_c38
  | 39, _ => exact am_c39
  | 40, _ => exact am_c40
  | 41, _ => exact am_c41
  | 42, _ => exact am_c42
  | 43, _ => exact am_c43
  | 44, _ => exact am_c44
  | 45, _ => exact am_c45
  | 46, _ => exact am_c46
  | 47, _ => exact am_c47
  | 48, _ => exact am_c48
  | 49, _ => exact am_c49
  | 50, _ => exact am_c50
  | 51, _ => exact am_c51
  | 52, _ => exact am_c52
  | 53, _ => exact am_c53
  | 54, _ => exact am_c54
  | 55, _ => exact am_c55
  | 56, _ => exact am_c56
  | 57, _ => exact am_c57
  | 58, _ => exact am_c58
  | 59, _ => exact am_c59
  | 60, _ => exact am_c60
  | 61, _ => exact am_c61
  | 62, _ => exact am_c62
  | 63, _ => exact am_c63
  | 64, _ => exact am_c64
  | 65, _ => exact am_c65
  | 66, _ => exact am_c66
  | 67, _ => exact am_c67
  | 68, _ => exact am_c68
  | 69, _ => exact am_c69
  | 70, _ => exact am_c70
  | 71, _ => exact am_c71
  | 72, _ => exact am_c72
  | 73, _ => exact am_c73
  | 74, _ => exact am_c74
  | 75, _ => exact am_c75
  | 76, _ => exact am_c76
  | 77, _ => exact am_c77
  | 78, _ => exact am_c78
  | 79, _ => exact am_c79
  | 80, _ => exact am_c80
  | 81, _ => exact am_c81
  | 82, _ => exact am_c82
  | 83, _ => exact am_c83
  | 84, _ => exact am_c84
  | 85, _ => exact am_c85
  | 86, _ => exact am_c86
  | 87, _ => exact am_c87
  | 88, _ => exact am_c88
  | 89, _ => exact am_c89
  | 90, _ => exact am_c90
  | 91, _ => exact am_c91
  | 92, _ => exact am_c92
  | 93, _ => exact am_c93
  | 94, _ => exact am_c94
  | 95, _ => exact am_c95
  | 96, _ => exact am_c96
  | 97, _ => exact am_c97
  | 98, _ => exact am_c98
  | 99, _ => exact am_c99
  | 100, _ => exact am_c100
  | 101, _ => exact am_c101
  | 102, _ => exact am_c102
  | 103, _ => exact am_c103
  | 104, _ => exact am_c104
  | 105, _ => exact am_c105
  | 106, _ => exact am_c106
  | 107, _ => exact am_c107
  | 108, _ => exact am_c108
  | 109, _ => exact am_c109
  | 110, _ => exact am_c110
  | 111, _ => exact am_c111
  | 112, _ => exact am_c112
  | 113, _ => exact am_c113
  | 114, _ => exact am_c114
  | 115, _ => exact am_c115
  | 116, _ => exact am_c116
  | 117, _ => exact am_c117
  | 118, _ => exact am_c118
  | 119, _ => exact am_c119
  | 120, _ => exact am_c120
  | 121, _ => exact am_c121
  | 122, _ => exact am_c122
  | 123, _ => exact am_c123
  | 124, _ => exact am_c124
  | 125, _ => exact am_c125
  | 126, _ => exact am_c126
  | 127, _ => exact am_c127
  | 128, _ => exact am_c128
  | 129, _ => exact am_c129
  | 130, _ => exact am_c130
  | 131, _ => exact am_c131
  | 132, _ => exact am_c132
  | 133, _ => exact am_c133
  | 134, _ => exact am_c134
  | 135, _ => exact am_c135
  | 136, _ => exact am_c136
  | 137, _ => exact am_c137
  | 138, _ => exact am_c138
  | 139, _ => exact am_c139
  | 140, _ => exact am_c140
  | 141, _ => exact am_c141
  | 142, _ => exact am_c142
  | 143, _ => exact am_c143
  | 144, _ => exact am_c144
  | 145, _ => exact am_c145
  | 146, _ => exact am_c146
  | 147, _ => exact am_c147
  | 148, _ => exact am_c148
  | 149, _ => exact am_c149
  | 150, _ => exact am_c150
  | 151, _ => exact am_c151
  | 152, _ => exact am_c152
  | 153, _ => exact am_c153
  | 154, _ => exact am_c154
  | 155, _ => exact am_c155
  | 156, _ => exact am_c156
  | 157, _ => exact am_c157
  | 158, _ => exact am_c158
  | 159, _ => exact am_c159
  | 160, _ => exact am_c160
  | 161, _ => exact am_c161
  | 162, _ => exact am_c162
  | 163, _ => exact am_c163
  | 164, _ => exact am_c164
  | 165, _ => exact am_c165
  | 166, _ => exact am_c166
  | 167, _ => exact am_c167
  | 168, _ => exact am_c168
  | 169, _ => exact am_c169
  | 170, _ => exact am_c170
  | 171, _ => exact am_c171
  | 172, _ => exact am_c172
  | 173, _ => exact am_c173
  | 174, _ => exact am_c174
  | 175, _ => exact am_c175
  | 176, _ => exact am_c176
  | 177, _ => exact am_c177
  | 178, _ => exact am_c178
  | 179, _ => exact am_c179
  | 180, _ => exact am_c180
  | 181, _ => exact am_c181
  | 182, _ => exact am_c182
  | 183, _ => exact am_c183
  | 184, _ => exact am_c184
  | 185, _ => exact am_c185
  | 186, _ => exact am_c186
  | 187, _ => exact am_c187
  | 188, _ => exact am_c188
  | 189, _ => exact am_c189
  | 190, _ => exact am_c190
  | 191, _ => exact am_c191
  | 192, _ => exact am_c192
  | 193, _ => exact am_c193
  | 194, _ => exact am_c194
  | 195, _ => exact am_c195
  | 196, _ => exact am_c196
  | 197, _ => exact am_c197
  | 198, _ => exact am_c198
  | 199, _ => exact am_c199
  | 200, _ => exact am_c200
  | 201, _ => exact am_c201
  | 202, _ => exact am_c202
  | 203, _ => exact am_c203
  | k + 204, h => exact absurd (show k + 204 < 204 from h) (by omega)
