theorem lk_102 : Cond.classLink RL 7 RX8 ∈ x_TB := x_tb (k := 102) (by decide +kernel) rfl
theorem lk_103 : Cond.instantiable RX8 14 ∈ x_TB := x_tb (k := 103) (by decide +kernel) rfl
theorem lk_106 : Cond.code yX8_init cX8_init 2 none ∈ x_TB := x_tb (k := 106) (by decide +kernel) rfl
theorem lk_104 : Cond.methodLink RL 9 yX8_init ∈ x_TB := x_tb (k := 104) (by decide +kernel) rfl
theorem lk_105 : Cond.instanceMethod yX8_init ∈ x_TB := x_tb (k := 105) (by decide +kernel) rfl
theorem lk_1024 : Cond.classLink RL 10 RX9 ∈ x_TB := x_tb (k := 1024) (by decide +kernel) rfl
theorem lk_1025 : Cond.instantiable RX9 42 ∈ x_TB := x_tb (k := 1025) (by decide +kernel) rfl
theorem lk_1028 : Cond.code yX9_init cX9_init 1 none ∈ x_TB := x_tb (k := 1028) (by decide +kernel) rfl
theorem lk_1026 : Cond.methodLink RL 12 yX9_init ∈ x_TB := x_tb (k := 1026) (by decide +kernel) rfl
theorem lk_1027 : Cond.instanceMethod yX9_init ∈ x_TB := x_tb (k := 1027) (by decide +kernel) rfl
theorem lk_406 : Cond.code yX8_row cX8_row 4 (some .int) ∈ x_TB := x_tb (k := 406) (by decide +kernel) rfl
theorem lk_403 : Cond.methodLink RL 13 yX8_row ∈ x_TB := x_tb (k := 403) (by decide +kernel) rfl
theorem lk_405 : Cond.selects RX8 yX8_row yX8_row ∈ x_TB := x_tb (k := 405) (by decide +kernel) rfl
theorem lk_404 : Cond.instanceMethod yX8_row ∈ x_TB := x_tb (k := 404) (by decide +kernel) rfl
theorem lk_1160 : Cond.code yX9_row cX9_row 5 (some .int) ∈ x_TB := x_tb (k := 1160) (by decide +kernel) rfl
theorem lk_1157 : Cond.methodLink RL 17 yX9_row ∈ x_TB := x_tb (k := 1157) (by decide +kernel) rfl
theorem lk_1159 : Cond.selects RX9 yX9_row yX9_row ∈ x_TB := x_tb (k := 1159) (by decide +kernel) rfl
theorem lk_1158 : Cond.instanceMethod yX9_row ∈ x_TB := x_tb (k := 1158) (by decide +kernel) rfl
theorem lk_1513 : Cond.constantLong RL 18 (4294967295 : Int64) ∈ x_TB := x_tb (k := 1513) (by decide +kernel) rfl
theorem lk_424 : Cond.code yX8_set cX8_set 6 (some .int) ∈ x_TB := x_tb (k := 424) (by decide +kernel) rfl
theorem lk_421 : Cond.methodLink RL 20 yX8_set ∈ x_TB := x_tb (k := 421) (by decide +kernel) rfl
theorem lk_423 : Cond.selects RX8 yX8_set yX8_set ∈ x_TB := x_tb (k := 423) (by decide +kernel) rfl
theorem lk_422 : Cond.instanceMethod yX8_set ∈ x_TB := x_tb (k := 422) (by decide +kernel) rfl
theorem lk_1172 : Cond.code yX9_set cX9_set 5 (some .int) ∈ x_TB := x_tb (k := 1172) (by decide +kernel) rfl
theorem lk_1169 : Cond.methodLink RL 24 yX9_set ∈ x_TB := x_tb (k := 1169) (by decide +kernel) rfl
theorem lk_1171 : Cond.selects RX9 yX9_set yX9_set ∈ x_TB := x_tb (k := 1171) (by decide +kernel) rfl
theorem lk_1170 : Cond.instanceMethod yX9_set ∈ x_TB := x_tb (k := 1170) (by decide +kernel) rfl
theorem lk_453 : Cond.code yX8_copy cX8_copy 7 (some .int) ∈ x_TB := x_tb (k := 453) (by decide +kernel) rfl
theorem lk_450 : Cond.methodLink RL 25 yX8_copy ∈ x_TB := x_tb (k := 450) (by decide +kernel) rfl
theorem lk_452 : Cond.selects RX8 yX8_copy yX8_copy ∈ x_TB := x_tb (k := 452) (by decide +kernel) rfl
theorem lk_451 : Cond.instanceMethod yX8_copy ∈ x_TB := x_tb (k := 451) (by decide +kernel) rfl
theorem lk_1176 : Cond.code yX9_copy cX9_copy 7 (some .int) ∈ x_TB := x_tb (k := 1176) (by decide +kernel) rfl
theorem lk_1173 : Cond.methodLink RL 29 yX9_copy ∈ x_TB := x_tb (k := 1173) (by decide +kernel) rfl
theorem lk_1175 : Cond.selects RX9 yX9_copy yX9_copy ∈ x_TB := x_tb (k := 1175) (by decide +kernel) rfl
theorem lk_1174 : Cond.instanceMethod yX9_copy ∈ x_TB := x_tb (k := 1174) (by decide +kernel) rfl
theorem lk_469 : Cond.code yX8_element cX8_element 3 (some .long) ∈ x_TB := x_tb (k := 469) (by decide +kernel) rfl
theorem lk_466 : Cond.methodLink RL 30 yX8_element ∈ x_TB := x_tb (k := 466) (by decide +kernel) rfl
theorem lk_468 : Cond.selects RX8 yX8_element yX8_element ∈ x_TB := x_tb (k := 468) (by decide +kernel) rfl
theorem lk_467 : Cond.instanceMethod yX8_element ∈ x_TB := x_tb (k := 467) (by decide +kernel) rfl
theorem lk_1180 : Cond.code yX9_element cX9_element 3 (some .long) ∈ x_TB := x_tb (k := 1180) (by decide +kernel) rfl
theorem lk_1177 : Cond.methodLink RL 34 yX9_element ∈ x_TB := x_tb (k := 1177) (by decide +kernel) rfl
theorem lk_1179 : Cond.selects RX9 yX9_element yX9_element ∈ x_TB := x_tb (k := 1179) (by decide +kernel) rfl
theorem lk_1178 : Cond.instanceMethod yX9_element ∈ x_TB := x_tb (k := 1178) (by decide +kernel) rfl
theorem lk_477 : Cond.code yX8_show cX8_show 3 (some .int) ∈ x_TB := x_tb (k := 477) (by decide +kernel) rfl
theorem lk_474 : Cond.methodLink RL 35 yX8_show ∈ x_TB := x_tb (k := 474) (by decide +kernel) rfl
theorem lk_476 : Cond.selects RX8 yX8_show yX8_show ∈ x_TB := x_tb (k := 476) (by decide +kernel) rfl
theorem lk_475 : Cond.instanceMethod yX8_show ∈ x_TB := x_tb (k := 475) (by decide +kernel) rfl
theorem lk_1184 : Cond.code yX9_show cX9_show 3 (some .int) ∈ x_TB := x_tb (k := 1184) (by decide +kernel) rfl
theorem lk_1181 : Cond.methodLink RL 39 yX9_show ∈ x_TB := x_tb (k := 1181) (by decide +kernel) rfl
theorem lk_1183 : Cond.selects RX9 yX9_show yX9_show ∈ x_TB := x_tb (k := 1183) (by decide +kernel) rfl
theorem lk_1182 : Cond.instanceMethod yX9_show ∈ x_TB := x_tb (k := 1182) (by decide +kernel) rfl
theorem lk_489 : Cond.code yX8_holds cX8_holds 2 (some .int) ∈ x_TB := x_tb (k := 489) (by decide +kernel) rfl
theorem lk_486 : Cond.methodLink RL 40 yX8_holds ∈ x_TB := x_tb (k := 486) (by decide +kernel) rfl
theorem lk_488 : Cond.selects RX8 yX8_holds yX8_holds ∈ x_TB := x_tb (k := 488) (by decide +kernel) rfl
theorem lk_487 : Cond.instanceMethod yX8_holds ∈ x_TB := x_tb (k := 487) (by decide +kernel) rfl
theorem lk_1192 : Cond.code yX9_holds cX9_holds 2 (some .int) ∈ x_TB := x_tb (k := 1192) (by decide +kernel) rfl
theorem lk_1189 : Cond.methodLink RL 44 yX9_holds ∈ x_TB := x_tb (k := 1189) (by decide +kernel) rfl
theorem lk_1191 : Cond.selects RX9 yX9_holds yX9_holds ∈ x_TB := x_tb (k := 1191) (by decide +kernel) rfl
theorem lk_1190 : Cond.instanceMethod yX9_holds ∈ x_TB := x_tb (k := 1190) (by decide +kernel) rfl
theorem lk_498 : Cond.code yX8_says cX8_says 5 (some .int) ∈ x_TB := x_tb (k := 498) (by decide +kernel) rfl
theorem lk_495 : Cond.methodLink RL 45 yX8_says ∈ x_TB := x_tb (k := 495) (by decide +kernel) rfl
theorem lk_497 : Cond.selects RX8 yX8_says yX8_says ∈ x_TB := x_tb (k := 497) (by decide +kernel) rfl
theorem lk_496 : Cond.instanceMethod yX8_says ∈ x_TB := x_tb (k := 496) (by decide +kernel) rfl
theorem lk_1196 : Cond.code yX9_says cX9_says 6 (some .int) ∈ x_TB := x_tb (k := 1196) (by decide +kernel) rfl
theorem lk_1193 : Cond.methodLink RL 48 yX9_says ∈ x_TB := x_tb (k := 1193) (by decide +kernel) rfl
theorem lk_1195 : Cond.selects RX9 yX9_says yX9_says ∈ x_TB := x_tb (k := 1195) (by decide +kernel) rfl
theorem lk_1194 : Cond.instanceMethod yX9_says ∈ x_TB := x_tb (k := 1194) (by decide +kernel) rfl
theorem lk_520 : Cond.code yX8_counter cX8_counter 3 (some .int) ∈ x_TB := x_tb (k := 520) (by decide +kernel) rfl
theorem lk_517 : Cond.methodLink RL 49 yX8_counter ∈ x_TB := x_tb (k := 517) (by decide +kernel) rfl
theorem lk_519 : Cond.selects RX8 yX8_counter yX8_counter ∈ x_TB := x_tb (k := 519) (by decide +kernel) rfl
theorem lk_518 : Cond.instanceMethod yX8_counter ∈ x_TB := x_tb (k := 518) (by decide +kernel) rfl
theorem lk_1200 : Cond.code yX9_counter cX9_counter 3 (some .int) ∈ x_TB := x_tb (k := 1200) (by decide +kernel) rfl
theorem lk_1197 : Cond.methodLink RL 52 yX9_counter ∈ x_TB := x_tb (k := 1197) (by decide +kernel) rfl
theorem lk_1199 : Cond.selects RX9 yX9_counter yX9_counter ∈ x_TB := x_tb (k := 1199) (by decide +kernel) rfl
theorem lk_1198 : Cond.instanceMethod yX9_counter ∈ x_TB := x_tb (k := 1198) (by decide +kernel) rfl
theorem lk_540 : Cond.code yX8_counterOf cX8_counterOf 4 (some .int) ∈ x_TB := x_tb (k := 540) (by decide +kernel) rfl
theorem lk_537 : Cond.methodLink RL 53 yX8_counterOf ∈ x_TB := x_tb (k := 537) (by decide +kernel) rfl
theorem lk_539 : Cond.selects RX8 yX8_counterOf yX8_counterOf ∈ x_TB := x_tb (k := 539) (by decide +kernel) rfl
theorem lk_538 : Cond.instanceMethod yX8_counterOf ∈ x_TB := x_tb (k := 538) (by decide +kernel) rfl
theorem lk_1208 : Cond.code yX9_counterOf cX9_counterOf 3 (some .int) ∈ x_TB := x_tb (k := 1208) (by decide +kernel) rfl
theorem lk_1205 : Cond.methodLink RL 56 yX9_counterOf ∈ x_TB := x_tb (k := 1205) (by decide +kernel) rfl
theorem lk_1207 : Cond.selects RX9 yX9_counterOf yX9_counterOf ∈ x_TB := x_tb (k := 1207) (by decide +kernel) rfl
theorem lk_1206 : Cond.instanceMethod yX9_counterOf ∈ x_TB := x_tb (k := 1206) (by decide +kernel) rfl
theorem lk_544 : Cond.code yX8_ask cX8_ask 3 (some .int) ∈ x_TB := x_tb (k := 544) (by decide +kernel) rfl
theorem lk_541 : Cond.methodLink RL 57 yX8_ask ∈ x_TB := x_tb (k := 541) (by decide +kernel) rfl
theorem lk_543 : Cond.selects RX8 yX8_ask yX8_ask ∈ x_TB := x_tb (k := 543) (by decide +kernel) rfl
theorem lk_542 : Cond.instanceMethod yX8_ask ∈ x_TB := x_tb (k := 542) (by decide +kernel) rfl
theorem lk_1209 : Cond.methodLink RL 60 yX9_ask ∈ x_TB := x_tb (k := 1209) (by decide +kernel) rfl
theorem lk_566 : Cond.code yX8_put cX8_put 4 (some .int) ∈ x_TB := x_tb (k := 566) (by decide +kernel) rfl
theorem lk_563 : Cond.methodLink RL 61 yX8_put ∈ x_TB := x_tb (k := 563) (by decide +kernel) rfl
theorem lk_565 : Cond.selects RX8 yX8_put yX8_put ∈ x_TB := x_tb (k := 565) (by decide +kernel) rfl
theorem lk_564 : Cond.instanceMethod yX8_put ∈ x_TB := x_tb (k := 564) (by decide +kernel) rfl
theorem lk_1224 : Cond.code yX9_put cX9_put 4 (some .int) ∈ x_TB := x_tb (k := 1224) (by decide +kernel) rfl
theorem lk_1221 : Cond.methodLink RL 64 yX9_put ∈ x_TB := x_tb (k := 1221) (by decide +kernel) rfl
theorem lk_1223 : Cond.selects RX9 yX9_put yX9_put ∈ x_TB := x_tb (k := 1223) (by decide +kernel) rfl
theorem lk_1222 : Cond.instanceMethod yX9_put ∈ x_TB := x_tb (k := 1222) (by decide +kernel) rfl
theorem lk_570 : Cond.code yX8_room cX8_room 4 (some .int) ∈ x_TB := x_tb (k := 570) (by decide +kernel) rfl
theorem lk_567 : Cond.methodLink RL 65 yX8_room ∈ x_TB := x_tb (k := 567) (by decide +kernel) rfl
theorem lk_569 : Cond.selects RX8 yX8_room yX8_room ∈ x_TB := x_tb (k := 569) (by decide +kernel) rfl
theorem lk_568 : Cond.instanceMethod yX8_room ∈ x_TB := x_tb (k := 568) (by decide +kernel) rfl
theorem lk_1228 : Cond.code yX9_room cX9_room 5 (some .int) ∈ x_TB := x_tb (k := 1228) (by decide +kernel) rfl
theorem lk_1225 : Cond.methodLink RL 68 yX9_room ∈ x_TB := x_tb (k := 1225) (by decide +kernel) rfl
theorem lk_1227 : Cond.selects RX9 yX9_room yX9_room ∈ x_TB := x_tb (k := 1227) (by decide +kernel) rfl
theorem lk_1226 : Cond.instanceMethod yX9_room ∈ x_TB := x_tb (k := 1226) (by decide +kernel) rfl
theorem lk_727 : Cond.code yX8_fault cX8_fault 1 (some .int) ∈ x_TB := x_tb (k := 727) (by decide +kernel) rfl
theorem lk_724 : Cond.methodLink RL 69 yX8_fault ∈ x_TB := x_tb (k := 724) (by decide +kernel) rfl
theorem lk_726 : Cond.selects RX8 yX8_fault yX8_fault ∈ x_TB := x_tb (k := 726) (by decide +kernel) rfl
theorem lk_725 : Cond.instanceMethod yX8_fault ∈ x_TB := x_tb (k := 725) (by decide +kernel) rfl
theorem lk_1281 : Cond.code yX9_fault cX9_fault 1 (some .int) ∈ x_TB := x_tb (k := 1281) (by decide +kernel) rfl
theorem lk_1278 : Cond.methodLink RL 73 yX9_fault ∈ x_TB := x_tb (k := 1278) (by decide +kernel) rfl
theorem lk_1280 : Cond.selects RX9 yX9_fault yX9_fault ∈ x_TB := x_tb (k := 1280) (by decide +kernel) rfl
theorem lk_1279 : Cond.instanceMethod yX9_fault ∈ x_TB := x_tb (k := 1279) (by decide +kernel) rfl
theorem lk_731 : Cond.code yX8_back cX8_back 3 (some .int) ∈ x_TB := x_tb (k := 731) (by decide +kernel) rfl
theorem lk_728 : Cond.methodLink RL 74 yX8_back ∈ x_TB := x_tb (k := 728) (by decide +kernel) rfl
theorem lk_730 : Cond.selects RX8 yX8_back yX8_back ∈ x_TB := x_tb (k := 730) (by decide +kernel) rfl
theorem lk_729 : Cond.instanceMethod yX8_back ∈ x_TB := x_tb (k := 729) (by decide +kernel) rfl
theorem lk_1285 : Cond.code yX9_back cX9_back 2 (some .int) ∈ x_TB := x_tb (k := 1285) (by decide +kernel) rfl
theorem lk_1282 : Cond.methodLink RL 77 yX9_back ∈ x_TB := x_tb (k := 1282) (by decide +kernel) rfl
theorem lk_1284 : Cond.selects RX9 yX9_back yX9_back ∈ x_TB := x_tb (k := 1284) (by decide +kernel) rfl
theorem lk_1283 : Cond.instanceMethod yX9_back ∈ x_TB := x_tb (k := 1283) (by decide +kernel) rfl
theorem lk_737 : Cond.code yX8_run cX8_run 8 (some .int) ∈ x_TB := x_tb (k := 737) (by decide +kernel) rfl
theorem lk_734 : Cond.methodLink RL 78 yX8_run ∈ x_TB := x_tb (k := 734) (by decide +kernel) rfl
theorem lk_736 : Cond.selects RX8 yX8_run yX8_run ∈ x_TB := x_tb (k := 736) (by decide +kernel) rfl
theorem lk_735 : Cond.instanceMethod yX8_run ∈ x_TB := x_tb (k := 735) (by decide +kernel) rfl
theorem lk_1289 : Cond.code yX9_run cX9_run 8 (some .int) ∈ x_TB := x_tb (k := 1289) (by decide +kernel) rfl
theorem lk_1286 : Cond.methodLink RL 81 yX9_run ∈ x_TB := x_tb (k := 1286) (by decide +kernel) rfl
theorem lk_1288 : Cond.selects RX9 yX9_run yX9_run ∈ x_TB := x_tb (k := 1288) (by decide +kernel) rfl
theorem lk_1287 : Cond.instanceMethod yX9_run ∈ x_TB := x_tb (k := 1287) (by decide +kernel) rfl
theorem lk_762 : Cond.code yX8_through cX8_through 5 (some .int) ∈ x_TB := x_tb (k := 762) (by decide +kernel) rfl
theorem lk_759 : Cond.methodLink RL 82 yX8_through ∈ x_TB := x_tb (k := 759) (by decide +kernel) rfl
theorem lk_761 : Cond.selects RX8 yX8_through yX8_through ∈ x_TB := x_tb (k := 761) (by decide +kernel) rfl
theorem lk_760 : Cond.instanceMethod yX8_through ∈ x_TB := x_tb (k := 760) (by decide +kernel) rfl
theorem lk_1313 : Cond.code yX9_through cX9_through 5 (some .int) ∈ x_TB := x_tb (k := 1313) (by decide +kernel) rfl
theorem lk_1310 : Cond.methodLink RL 85 yX9_through ∈ x_TB := x_tb (k := 1310) (by decide +kernel) rfl
theorem lk_1312 : Cond.selects RX9 yX9_through yX9_through ∈ x_TB := x_tb (k := 1312) (by decide +kernel) rfl
theorem lk_1311 : Cond.instanceMethod yX9_through ∈ x_TB := x_tb (k := 1311) (by decide +kernel) rfl
theorem lk_775 : Cond.code yX8_chance cX8_chance 3 (some .int) ∈ x_TB := x_tb (k := 775) (by decide +kernel) rfl
theorem lk_772 : Cond.methodLink RL 86 yX8_chance ∈ x_TB := x_tb (k := 772) (by decide +kernel) rfl
theorem lk_774 : Cond.selects RX8 yX8_chance yX8_chance ∈ x_TB := x_tb (k := 774) (by decide +kernel) rfl
theorem lk_773 : Cond.instanceMethod yX8_chance ∈ x_TB := x_tb (k := 773) (by decide +kernel) rfl
theorem lk_1325 : Cond.code yX9_chance cX9_chance 3 (some .int) ∈ x_TB := x_tb (k := 1325) (by decide +kernel) rfl
theorem lk_1322 : Cond.methodLink RL 89 yX9_chance ∈ x_TB := x_tb (k := 1322) (by decide +kernel) rfl
theorem lk_1324 : Cond.selects RX9 yX9_chance yX9_chance ∈ x_TB := x_tb (k := 1324) (by decide +kernel) rfl
theorem lk_1323 : Cond.instanceMethod yX9_chance ∈ x_TB := x_tb (k := 1323) (by decide +kernel) rfl
theorem lk_812 : Cond.code yX8_median cX8_median 4 (some .int) ∈ x_TB := x_tb (k := 812) (by decide +kernel) rfl
theorem lk_809 : Cond.methodLink RL 90 yX8_median ∈ x_TB := x_tb (k := 809) (by decide +kernel) rfl
theorem lk_811 : Cond.selects RX8 yX8_median yX8_median ∈ x_TB := x_tb (k := 811) (by decide +kernel) rfl
theorem lk_810 : Cond.instanceMethod yX8_median ∈ x_TB := x_tb (k := 810) (by decide +kernel) rfl
theorem lk_1355 : Cond.code yX9_median cX9_median 3 (some .int) ∈ x_TB := x_tb (k := 1355) (by decide +kernel) rfl
theorem lk_1352 : Cond.methodLink RL 93 yX9_median ∈ x_TB := x_tb (k := 1352) (by decide +kernel) rfl
theorem lk_1354 : Cond.selects RX9 yX9_median yX9_median ∈ x_TB := x_tb (k := 1354) (by decide +kernel) rfl
theorem lk_1353 : Cond.instanceMethod yX9_median ∈ x_TB := x_tb (k := 1353) (by decide +kernel) rfl
theorem lk_825 : Cond.code yX8_bestApart cX8_bestApart 11 (some .int) ∈ x_TB := x_tb (k := 825) (by decide +kernel) rfl
theorem lk_822 : Cond.methodLink RL 94 yX8_bestApart ∈ x_TB := x_tb (k := 822) (by decide +kernel) rfl
theorem lk_824 : Cond.selects RX8 yX8_bestApart yX8_bestApart ∈ x_TB := x_tb (k := 824) (by decide +kernel) rfl
theorem lk_823 : Cond.instanceMethod yX8_bestApart ∈ x_TB := x_tb (k := 823) (by decide +kernel) rfl
theorem lk_1363 : Cond.code yX9_bestApart cX9_bestApart 8 (some .int) ∈ x_TB := x_tb (k := 1363) (by decide +kernel) rfl
theorem lk_1360 : Cond.methodLink RL 97 yX9_bestApart ∈ x_TB := x_tb (k := 1360) (by decide +kernel) rfl
theorem lk_1362 : Cond.selects RX9 yX9_bestApart yX9_bestApart ∈ x_TB := x_tb (k := 1362) (by decide +kernel) rfl
theorem lk_1361 : Cond.instanceMethod yX9_bestApart ∈ x_TB := x_tb (k := 1361) (by decide +kernel) rfl
theorem lk_831 : Cond.code yX8_when cX8_when 9 (some .int) ∈ x_TB := x_tb (k := 831) (by decide +kernel) rfl
theorem lk_828 : Cond.methodLink RL 98 yX8_when ∈ x_TB := x_tb (k := 828) (by decide +kernel) rfl
theorem lk_830 : Cond.selects RX8 yX8_when yX8_when ∈ x_TB := x_tb (k := 830) (by decide +kernel) rfl
theorem lk_829 : Cond.instanceMethod yX8_when ∈ x_TB := x_tb (k := 829) (by decide +kernel) rfl
theorem lk_1371 : Cond.code yX9_when cX9_when 8 (some .int) ∈ x_TB := x_tb (k := 1371) (by decide +kernel) rfl
theorem lk_1368 : Cond.methodLink RL 101 yX9_when ∈ x_TB := x_tb (k := 1368) (by decide +kernel) rfl
theorem lk_1370 : Cond.selects RX9 yX9_when yX9_when ∈ x_TB := x_tb (k := 1370) (by decide +kernel) rfl
theorem lk_1369 : Cond.instanceMethod yX9_when ∈ x_TB := x_tb (k := 1369) (by decide +kernel) rfl
theorem lk_839 : Cond.code yX8_longest cX8_longest 5 (some .int) ∈ x_TB := x_tb (k := 839) (by decide +kernel) rfl
theorem lk_836 : Cond.methodLink RL 102 yX8_longest ∈ x_TB := x_tb (k := 836) (by decide +kernel) rfl
theorem lk_838 : Cond.selects RX8 yX8_longest yX8_longest ∈ x_TB := x_tb (k := 838) (by decide +kernel) rfl
theorem lk_837 : Cond.instanceMethod yX8_longest ∈ x_TB := x_tb (k := 837) (by decide +kernel) rfl
theorem lk_1379 : Cond.code yX9_longest cX9_longest 9 (some .int) ∈ x_TB := x_tb (k := 1379) (by decide +kernel) rfl
theorem lk_1376 : Cond.methodLink RL 105 yX9_longest ∈ x_TB := x_tb (k := 1376) (by decide +kernel) rfl
theorem lk_1378 : Cond.selects RX9 yX9_longest yX9_longest ∈ x_TB := x_tb (k := 1378) (by decide +kernel) rfl
theorem lk_1377 : Cond.instanceMethod yX9_longest ∈ x_TB := x_tb (k := 1377) (by decide +kernel) rfl
theorem lk_853 : Cond.code yX8_fits cX8_fits 4 (some .int) ∈ x_TB := x_tb (k := 853) (by decide +kernel) rfl
theorem lk_850 : Cond.methodLink RL 106 yX8_fits ∈ x_TB := x_tb (k := 850) (by decide +kernel) rfl
theorem lk_852 : Cond.selects RX8 yX8_fits yX8_fits ∈ x_TB := x_tb (k := 852) (by decide +kernel) rfl
theorem lk_851 : Cond.instanceMethod yX8_fits ∈ x_TB := x_tb (k := 851) (by decide +kernel) rfl
theorem lk_1383 : Cond.code yX9_fits cX9_fits 10 (some .int) ∈ x_TB := x_tb (k := 1383) (by decide +kernel) rfl
theorem lk_1380 : Cond.methodLink RL 109 yX9_fits ∈ x_TB := x_tb (k := 1380) (by decide +kernel) rfl
theorem lk_1382 : Cond.selects RX9 yX9_fits yX9_fits ∈ x_TB := x_tb (k := 1382) (by decide +kernel) rfl
theorem lk_1381 : Cond.instanceMethod yX9_fits ∈ x_TB := x_tb (k := 1381) (by decide +kernel) rfl
theorem lk_869 : Cond.code yX8_judge cX8_judge 5 (some .int) ∈ x_TB := x_tb (k := 869) (by decide +kernel) rfl
theorem lk_866 : Cond.methodLink RL 110 yX8_judge ∈ x_TB := x_tb (k := 866) (by decide +kernel) rfl
theorem lk_868 : Cond.selects RX8 yX8_judge yX8_judge ∈ x_TB := x_tb (k := 868) (by decide +kernel) rfl
theorem lk_867 : Cond.instanceMethod yX8_judge ∈ x_TB := x_tb (k := 867) (by decide +kernel) rfl
theorem lk_1387 : Cond.code yX9_judge cX9_judge 5 (some .int) ∈ x_TB := x_tb (k := 1387) (by decide +kernel) rfl
theorem lk_1384 : Cond.methodLink RL 113 yX9_judge ∈ x_TB := x_tb (k := 1384) (by decide +kernel) rfl
theorem lk_1386 : Cond.selects RX9 yX9_judge yX9_judge ∈ x_TB := x_tb (k := 1386) (by decide +kernel) rfl
theorem lk_1385 : Cond.instanceMethod yX9_judge ∈ x_TB := x_tb (k := 1385) (by decide +kernel) rfl
theorem lk_883 : Cond.code yX8_breaks cX8_breaks 5 (some .int) ∈ x_TB := x_tb (k := 883) (by decide +kernel) rfl
theorem lk_880 : Cond.methodLink RL 114 yX8_breaks ∈ x_TB := x_tb (k := 880) (by decide +kernel) rfl
theorem lk_882 : Cond.selects RX8 yX8_breaks yX8_breaks ∈ x_TB := x_tb (k := 882) (by decide +kernel) rfl
theorem lk_881 : Cond.instanceMethod yX8_breaks ∈ x_TB := x_tb (k := 881) (by decide +kernel) rfl
theorem lk_1399 : Cond.code yX9_breaks cX9_breaks 5 (some .int) ∈ x_TB := x_tb (k := 1399) (by decide +kernel) rfl
theorem lk_1396 : Cond.methodLink RL 117 yX9_breaks ∈ x_TB := x_tb (k := 1396) (by decide +kernel) rfl
theorem lk_1398 : Cond.selects RX9 yX9_breaks yX9_breaks ∈ x_TB := x_tb (k := 1398) (by decide +kernel) rfl
theorem lk_1397 : Cond.instanceMethod yX9_breaks ∈ x_TB := x_tb (k := 1397) (by decide +kernel) rfl
theorem lk_887 : Cond.code yX8_quickest cX8_quickest 8 (some .int) ∈ x_TB := x_tb (k := 887) (by decide +kernel) rfl
theorem lk_884 : Cond.methodLink RL 118 yX8_quickest ∈ x_TB := x_tb (k := 884) (by decide +kernel) rfl
theorem lk_886 : Cond.selects RX8 yX8_quickest yX8_quickest ∈ x_TB := x_tb (k := 886) (by decide +kernel) rfl
theorem lk_885 : Cond.instanceMethod yX8_quickest ∈ x_TB := x_tb (k := 885) (by decide +kernel) rfl
theorem lk_1403 : Cond.code yX9_quickest cX9_quickest 8 (some .int) ∈ x_TB := x_tb (k := 1403) (by decide +kernel) rfl
theorem lk_1400 : Cond.methodLink RL 121 yX9_quickest ∈ x_TB := x_tb (k := 1400) (by decide +kernel) rfl
theorem lk_1402 : Cond.selects RX9 yX9_quickest yX9_quickest ∈ x_TB := x_tb (k := 1402) (by decide +kernel) rfl
theorem lk_1401 : Cond.instanceMethod yX9_quickest ∈ x_TB := x_tb (k := 1401) (by decide +kernel) rfl
theorem lk_891 : Cond.code yX8_surest cX8_surest 6 (some .int) ∈ x_TB := x_tb (k := 891) (by decide +kernel) rfl
theorem lk_888 : Cond.methodLink RL 122 yX8_surest ∈ x_TB := x_tb (k := 888) (by decide +kernel) rfl
theorem lk_890 : Cond.selects RX8 yX8_surest yX8_surest ∈ x_TB := x_tb (k := 890) (by decide +kernel) rfl
theorem lk_889 : Cond.instanceMethod yX8_surest ∈ x_TB := x_tb (k := 889) (by decide +kernel) rfl
theorem lk_1367 : Cond.code yX9_surest cX9_surest 6 (some .int) ∈ x_TB := x_tb (k := 1367) (by decide +kernel) rfl
theorem lk_1364 : Cond.methodLink RL 125 yX9_surest ∈ x_TB := x_tb (k := 1364) (by decide +kernel) rfl
theorem lk_1366 : Cond.selects RX9 yX9_surest yX9_surest ∈ x_TB := x_tb (k := 1366) (by decide +kernel) rfl
theorem lk_1365 : Cond.instanceMethod yX9_surest ∈ x_TB := x_tb (k := 1365) (by decide +kernel) rfl
theorem lk_895 : Cond.code yX8_parted cX8_parted 8 (some .int) ∈ x_TB := x_tb (k := 895) (by decide +kernel) rfl
theorem lk_892 : Cond.methodLink RL 126 yX8_parted ∈ x_TB := x_tb (k := 892) (by decide +kernel) rfl
theorem lk_894 : Cond.selects RX8 yX8_parted yX8_parted ∈ x_TB := x_tb (k := 894) (by decide +kernel) rfl
theorem lk_893 : Cond.instanceMethod yX8_parted ∈ x_TB := x_tb (k := 893) (by decide +kernel) rfl
theorem lk_1407 : Cond.code yX9_parted cX9_parted 9 (some .int) ∈ x_TB := x_tb (k := 1407) (by decide +kernel) rfl
theorem lk_1404 : Cond.methodLink RL 129 yX9_parted ∈ x_TB := x_tb (k := 1404) (by decide +kernel) rfl
theorem lk_1406 : Cond.selects RX9 yX9_parted yX9_parted ∈ x_TB := x_tb (k := 1406) (by decide +kernel) rfl
theorem lk_1405 : Cond.instanceMethod yX9_parted ∈ x_TB := x_tb (k := 1405) (by decide +kernel) rfl
theorem lk_904 : Cond.code yX8_tally cX8_tally 2 (some .int) ∈ x_TB := x_tb (k := 904) (by decide +kernel) rfl
theorem lk_901 : Cond.methodLink RL 130 yX8_tally ∈ x_TB := x_tb (k := 901) (by decide +kernel) rfl
theorem lk_903 : Cond.selects RX8 yX8_tally yX8_tally ∈ x_TB := x_tb (k := 903) (by decide +kernel) rfl
theorem lk_902 : Cond.instanceMethod yX8_tally ∈ x_TB := x_tb (k := 902) (by decide +kernel) rfl
theorem lk_1415 : Cond.code yX9_tally cX9_tally 2 (some .int) ∈ x_TB := x_tb (k := 1415) (by decide +kernel) rfl
theorem lk_1412 : Cond.methodLink RL 133 yX9_tally ∈ x_TB := x_tb (k := 1412) (by decide +kernel) rfl
theorem lk_1414 : Cond.selects RX9 yX9_tally yX9_tally ∈ x_TB := x_tb (k := 1414) (by decide +kernel) rfl
theorem lk_1413 : Cond.instanceMethod yX9_tally ∈ x_TB := x_tb (k := 1413) (by decide +kernel) rfl
theorem lk_910 : Cond.code yX8_tallies cX8_tallies 2 (some .int) ∈ x_TB := x_tb (k := 910) (by decide +kernel) rfl
theorem lk_907 : Cond.methodLink RL 134 yX8_tallies ∈ x_TB := x_tb (k := 907) (by decide +kernel) rfl
theorem lk_909 : Cond.selects RX8 yX8_tallies yX8_tallies ∈ x_TB := x_tb (k := 909) (by decide +kernel) rfl
theorem lk_908 : Cond.instanceMethod yX8_tallies ∈ x_TB := x_tb (k := 908) (by decide +kernel) rfl
theorem lk_1419 : Cond.code yX9_tallies cX9_tallies 2 (some .int) ∈ x_TB := x_tb (k := 1419) (by decide +kernel) rfl
theorem lk_1416 : Cond.methodLink RL 137 yX9_tallies ∈ x_TB := x_tb (k := 1416) (by decide +kernel) rfl
theorem lk_1418 : Cond.selects RX9 yX9_tallies yX9_tallies ∈ x_TB := x_tb (k := 1418) (by decide +kernel) rfl
theorem lk_1417 : Cond.instanceMethod yX9_tallies ∈ x_TB := x_tb (k := 1417) (by decide +kernel) rfl
theorem lk_931 : Cond.code yX8_forget cX8_forget 2 (some .int) ∈ x_TB := x_tb (k := 931) (by decide +kernel) rfl
theorem lk_928 : Cond.methodLink RL 138 yX8_forget ∈ x_TB := x_tb (k := 928) (by decide +kernel) rfl
theorem lk_930 : Cond.selects RX8 yX8_forget yX8_forget ∈ x_TB := x_tb (k := 930) (by decide +kernel) rfl
theorem lk_929 : Cond.instanceMethod yX8_forget ∈ x_TB := x_tb (k := 929) (by decide +kernel) rfl
theorem lk_1439 : Cond.code yX9_forget cX9_forget 2 (some .int) ∈ x_TB := x_tb (k := 1439) (by decide +kernel) rfl
theorem lk_1436 : Cond.methodLink RL 141 yX9_forget ∈ x_TB := x_tb (k := 1436) (by decide +kernel) rfl
theorem lk_1438 : Cond.selects RX9 yX9_forget yX9_forget ∈ x_TB := x_tb (k := 1438) (by decide +kernel) rfl
theorem lk_1437 : Cond.instanceMethod yX9_forget ∈ x_TB := x_tb (k := 1437) (by decide +kernel) rfl
theorem lk_935 : Cond.code yX8_knits cX8_knits 4 (some .int) ∈ x_TB := x_tb (k := 935) (by decide +kernel) rfl
theorem lk_932 : Cond.methodLink RL 142 yX8_knits ∈ x_TB := x_tb (k := 932) (by decide +kernel) rfl
theorem lk_934 : Cond.selects RX8 yX8_knits yX8_knits ∈ x_TB := x_tb (k := 934) (by decide +kernel) rfl
theorem lk_933 : Cond.instanceMethod yX8_knits ∈ x_TB := x_tb (k := 933) (by decide +kernel) rfl
theorem lk_1443 : Cond.code yX9_knits cX9_knits 4 (some .int) ∈ x_TB := x_tb (k := 1443) (by decide +kernel) rfl
theorem lk_1440 : Cond.methodLink RL 145 yX9_knits ∈ x_TB := x_tb (k := 1440) (by decide +kernel) rfl
theorem lk_1442 : Cond.selects RX9 yX9_knits yX9_knits ∈ x_TB := x_tb (k := 1442) (by decide +kernel) rfl
theorem lk_1441 : Cond.instanceMethod yX9_knits ∈ x_TB := x_tb (k := 1441) (by decide +kernel) rfl
theorem lk_940 : Cond.code yX8_asks cX8_asks 2 (some .int) ∈ x_TB := x_tb (k := 940) (by decide +kernel) rfl
theorem lk_937 : Cond.methodLink RL 146 yX8_asks ∈ x_TB := x_tb (k := 937) (by decide +kernel) rfl
theorem lk_939 : Cond.selects RX8 yX8_asks yX8_asks ∈ x_TB := x_tb (k := 939) (by decide +kernel) rfl
theorem lk_938 : Cond.instanceMethod yX8_asks ∈ x_TB := x_tb (k := 938) (by decide +kernel) rfl
theorem lk_1451 : Cond.code yX9_asks cX9_asks 2 (some .int) ∈ x_TB := x_tb (k := 1451) (by decide +kernel) rfl
theorem lk_1448 : Cond.methodLink RL 149 yX9_asks ∈ x_TB := x_tb (k := 1448) (by decide +kernel) rfl
theorem lk_1450 : Cond.selects RX9 yX9_asks yX9_asks ∈ x_TB := x_tb (k := 1450) (by decide +kernel) rfl
theorem lk_1449 : Cond.instanceMethod yX9_asks ∈ x_TB := x_tb (k := 1449) (by decide +kernel) rfl
theorem lk_944 : Cond.code yX8_again cX8_again 3 (some .int) ∈ x_TB := x_tb (k := 944) (by decide +kernel) rfl
theorem lk_941 : Cond.methodLink RL 150 yX8_again ∈ x_TB := x_tb (k := 941) (by decide +kernel) rfl
theorem lk_943 : Cond.selects RX8 yX8_again yX8_again ∈ x_TB := x_tb (k := 943) (by decide +kernel) rfl
theorem lk_942 : Cond.instanceMethod yX8_again ∈ x_TB := x_tb (k := 942) (by decide +kernel) rfl
theorem lk_1455 : Cond.code yX9_again cX9_again 2 (some .int) ∈ x_TB := x_tb (k := 1455) (by decide +kernel) rfl
theorem lk_1452 : Cond.methodLink RL 153 yX9_again ∈ x_TB := x_tb (k := 1452) (by decide +kernel) rfl
theorem lk_1454 : Cond.selects RX9 yX9_again yX9_again ∈ x_TB := x_tb (k := 1454) (by decide +kernel) rfl
theorem lk_1453 : Cond.instanceMethod yX9_again ∈ x_TB := x_tb (k := 1453) (by decide +kernel) rfl
theorem lk_949 : Cond.code yX8_evenings cX8_evenings 4 (some .int) ∈ x_TB := x_tb (k := 949) (by decide +kernel) rfl
theorem lk_946 : Cond.methodLink RL 154 yX8_evenings ∈ x_TB := x_tb (k := 946) (by decide +kernel) rfl
theorem lk_948 : Cond.selects RX8 yX8_evenings yX8_evenings ∈ x_TB := x_tb (k := 948) (by decide +kernel) rfl
theorem lk_947 : Cond.instanceMethod yX8_evenings ∈ x_TB := x_tb (k := 947) (by decide +kernel) rfl
theorem lk_1463 : Cond.code yX9_evenings cX9_evenings 6 (some .int) ∈ x_TB := x_tb (k := 1463) (by decide +kernel) rfl
theorem lk_1460 : Cond.methodLink RL 157 yX9_evenings ∈ x_TB := x_tb (k := 1460) (by decide +kernel) rfl
theorem lk_1462 : Cond.selects RX9 yX9_evenings yX9_evenings ∈ x_TB := x_tb (k := 1462) (by decide +kernel) rfl
theorem lk_1461 : Cond.instanceMethod yX9_evenings ∈ x_TB := x_tb (k := 1461) (by decide +kernel) rfl
theorem lk_968 : Cond.code yX8_seed cX8_seed 3 (some .int) ∈ x_TB := x_tb (k := 968) (by decide +kernel) rfl
theorem lk_965 : Cond.methodLink RL 158 yX8_seed ∈ x_TB := x_tb (k := 965) (by decide +kernel) rfl
theorem lk_967 : Cond.selects RX8 yX8_seed yX8_seed ∈ x_TB := x_tb (k := 967) (by decide +kernel) rfl
theorem lk_966 : Cond.instanceMethod yX8_seed ∈ x_TB := x_tb (k := 966) (by decide +kernel) rfl
theorem lk_1476 : Cond.code yX9_seed cX9_seed 3 (some .int) ∈ x_TB := x_tb (k := 1476) (by decide +kernel) rfl
theorem lk_1473 : Cond.methodLink RL 161 yX9_seed ∈ x_TB := x_tb (k := 1473) (by decide +kernel) rfl
theorem lk_1475 : Cond.selects RX9 yX9_seed yX9_seed ∈ x_TB := x_tb (k := 1475) (by decide +kernel) rfl
theorem lk_1474 : Cond.instanceMethod yX9_seed ∈ x_TB := x_tb (k := 1474) (by decide +kernel) rfl
theorem lk_972 : Cond.code yX8_act cX8_act 4 (some .int) ∈ x_TB := x_tb (k := 972) (by decide +kernel) rfl
theorem lk_969 : Cond.methodLink RL 162 yX8_act ∈ x_TB := x_tb (k := 969) (by decide +kernel) rfl
theorem lk_971 : Cond.selects RX8 yX8_act yX8_act ∈ x_TB := x_tb (k := 971) (by decide +kernel) rfl
theorem lk_970 : Cond.instanceMethod yX8_act ∈ x_TB := x_tb (k := 970) (by decide +kernel) rfl
theorem lk_1480 : Cond.code yX9_act cX9_act 4 (some .int) ∈ x_TB := x_tb (k := 1480) (by decide +kernel) rfl
theorem lk_1477 : Cond.methodLink RL 165 yX9_act ∈ x_TB := x_tb (k := 1477) (by decide +kernel) rfl
theorem lk_1479 : Cond.selects RX9 yX9_act yX9_act ∈ x_TB := x_tb (k := 1479) (by decide +kernel) rfl
theorem lk_1478 : Cond.instanceMethod yX9_act ∈ x_TB := x_tb (k := 1478) (by decide +kernel) rfl
theorem lk_1006 : Cond.code yX8_trace cX8_trace 2 (some .int) ∈ x_TB := x_tb (k := 1006) (by decide +kernel) rfl
theorem lk_1003 : Cond.methodLink RL 166 yX8_trace ∈ x_TB := x_tb (k := 1003) (by decide +kernel) rfl
theorem lk_1005 : Cond.selects RX8 yX8_trace yX8_trace ∈ x_TB := x_tb (k := 1005) (by decide +kernel) rfl
theorem lk_1004 : Cond.instanceMethod yX8_trace ∈ x_TB := x_tb (k := 1004) (by decide +kernel) rfl
theorem lk_1500 : Cond.code yX9_trace cX9_trace 2 (some .int) ∈ x_TB := x_tb (k := 1500) (by decide +kernel) rfl
theorem lk_1497 : Cond.methodLink RL 169 yX9_trace ∈ x_TB := x_tb (k := 1497) (by decide +kernel) rfl
theorem lk_1499 : Cond.selects RX9 yX9_trace yX9_trace ∈ x_TB := x_tb (k := 1499) (by decide +kernel) rfl
theorem lk_1498 : Cond.instanceMethod yX9_trace ∈ x_TB := x_tb (k := 1498) (by decide +kernel) rfl
theorem lk_1014 : Cond.code yX8_image cX8_image 1 (some .int) ∈ x_TB := x_tb (k := 1014) (by decide +kernel) rfl
theorem lk_1011 : Cond.methodLink RL 170 yX8_image ∈ x_TB := x_tb (k := 1011) (by decide +kernel) rfl
theorem lk_1013 : Cond.selects RX8 yX8_image yX8_image ∈ x_TB := x_tb (k := 1013) (by decide +kernel) rfl
theorem lk_1012 : Cond.instanceMethod yX8_image ∈ x_TB := x_tb (k := 1012) (by decide +kernel) rfl
theorem lk_1504 : Cond.code yX9_image cX9_image 1 (some .int) ∈ x_TB := x_tb (k := 1504) (by decide +kernel) rfl
theorem lk_1501 : Cond.methodLink RL 173 yX9_image ∈ x_TB := x_tb (k := 1501) (by decide +kernel) rfl
theorem lk_1503 : Cond.selects RX9 yX9_image yX9_image ∈ x_TB := x_tb (k := 1503) (by decide +kernel) rfl
theorem lk_1502 : Cond.instanceMethod yX9_image ∈ x_TB := x_tb (k := 1502) (by decide +kernel) rfl
theorem lk_1018 : Cond.code yX8_restore cX8_restore 2 (some .int) ∈ x_TB := x_tb (k := 1018) (by decide +kernel) rfl
theorem lk_1015 : Cond.methodLink RL 174 yX8_restore ∈ x_TB := x_tb (k := 1015) (by decide +kernel) rfl
theorem lk_1017 : Cond.selects RX8 yX8_restore yX8_restore ∈ x_TB := x_tb (k := 1017) (by decide +kernel) rfl
theorem lk_1016 : Cond.instanceMethod yX8_restore ∈ x_TB := x_tb (k := 1016) (by decide +kernel) rfl
theorem lk_1508 : Cond.code yX9_restore cX9_restore 2 (some .int) ∈ x_TB := x_tb (k := 1508) (by decide +kernel) rfl
theorem lk_1505 : Cond.methodLink RL 177 yX9_restore ∈ x_TB := x_tb (k := 1505) (by decide +kernel) rfl
theorem lk_1507 : Cond.selects RX9 yX9_restore yX9_restore ∈ x_TB := x_tb (k := 1507) (by decide +kernel) rfl
theorem lk_1506 : Cond.instanceMethod yX9_restore ∈ x_TB := x_tb (k := 1506) (by decide +kernel) rfl
theorem lk_1022 : Cond.code yX8_status cX8_status 2 (some .int) ∈ x_TB := x_tb (k := 1022) (by decide +kernel) rfl
theorem lk_1019 : Cond.methodLink RL 178 yX8_status ∈ x_TB := x_tb (k := 1019) (by decide +kernel) rfl
theorem lk_1021 : Cond.selects RX8 yX8_status yX8_status ∈ x_TB := x_tb (k := 1021) (by decide +kernel) rfl
theorem lk_1020 : Cond.instanceMethod yX8_status ∈ x_TB := x_tb (k := 1020) (by decide +kernel) rfl
theorem lk_1512 : Cond.code yX9_status cX9_status 4 (some .int) ∈ x_TB := x_tb (k := 1512) (by decide +kernel) rfl
theorem lk_1509 : Cond.methodLink RL 181 yX9_status ∈ x_TB := x_tb (k := 1509) (by decide +kernel) rfl
theorem lk_1511 : Cond.selects RX9 yX9_status yX9_status ∈ x_TB := x_tb (k := 1511) (by decide +kernel) rfl
theorem lk_1510 : Cond.instanceMethod yX9_status ∈ x_TB := x_tb (k := 1510) (by decide +kernel) rfl
abbrev m_L_law : XU := (yL_law, cL_law, 4, (some .boolean))
theorem cn_L_law : m_L_law.1.cls ≠ "java/lang/invoke/MethodHandle" ∧ m_L_law.1.cls ≠ "java/lang/invoke/VarHandle" ∧ (parseMethodDescriptor m_L_law.1.desc).map (fun q => q.parameters.length) = some 1 := by decide +kernel
def f_L_law_1519 (κ18 : Nat → Nat → Nat → Int32 → XM → Option (Int32 × XM)) (v0 : Nat) (v1 : Nat) (v2 : Nat) (v3 : Int32) (M : XM) : Option (Int32 × XM) :=
  κ18 v0 v1 v2 (v3 + (6 : Int32)) M
set_option maxRecDepth 20000 in
set_option maxHeartbeats 4000000 in
theorem t_L_law_1519 (l : Launch) {κ18 : Nat → Nat → Nat → Int32 → XM → Option (Int32 × XM)} {v0 : Nat} {v1 : Nat} {v2 : Nat} {v3 : Int32} {M : XM} {q : Int32 × XM} (hκ18 : ∀ (v0 : Nat) (v1 : Nat) (v2 : Nat) (v3 : Int32) (M : XM), κ18 v0 v1 v2 v3 M = some q → AW l m_L_law 33 600000 7302250 (x_Ri q) 90 14893 18 [some (.ref v0), some (.ref v1), some (.ref v2), some (.int v3)] [] M) (H : f_L_law_1519 κ18 v0 v1 v2 v3 M = some q) : AW l m_L_law 33 600000 7302250 (x_Ri q) 90 14893 1519 [some (.ref v0), some (.ref v1), some (.ref v2), some (.int v3)] [] M := by
  unfold f_L_law_1519 at H
  refine x_iinc 1519 3 (v3 + (6 : Int32)) [some (.ref v0), some (.ref v1), some (.ref v2), some (.int (v3 + (6 : Int32)))] dL_law_1519 rfl (congrArg (fun z : Int32 => v3 + z) (show Int32.ofInt (6) = (6 : Int32) by decide)) rfl (Nat.le_of_ble_eq_true rfl) rfl ?_
  refine x_goto 1522 18 dL_law_1522 (by decide) ?_
  exact hκ18 _ _ _ _ _ H

def f_L_law_c243 (κ18 : Nat → Nat → Nat → Int32 → XM → Option (Int32 × XM)) (v0 : Nat) (v1 : Nat) (v2 : Nat) (v3 : Int32) (s1 : Int32) (s0 : Int32) (M : XM) : Option (Int32 × XM) :=
  if s1 = s0 then (f_L_law_1519 κ18 v0 v1 v2 v3 M) else (some ((0 : Int32), M))
set_option maxRecDepth 20000 in
set_option maxHeartbeats 4000000 in
theorem t_L_law_c243 (l : Launch) {κ18 : Nat → Nat → Nat → Int32 → XM → Option (Int32 × XM)} {v0 : Nat} {v1 : Nat} {v2 : Nat} {v3 : Int32} {s1 : Int32} {s0 : Int32} {M : XM} {q : Int32 × XM} (hκ18 : ∀ (v0 : Nat) (v1 : Nat) (v2 : Nat) (v3 : Int32) (M : XM), κ18 v0 v1 v2 v3 M = some q → AW l m_L_law 33 600000 7302250 (x_Ri q) 90 14893 18 [some (.ref v0), some (.ref v1), some (.ref v2), some (.int v3)] [] M) (H : f_L_law_c243 κ18 v0 v1 v2 v3 s1 s0 M = some q) : AW l m_L_law 33 600000 7302250 (x_Ri q) 90 14893 246 [some (.ref v0), some (.ref v1), some (.ref v2), some (.int v3)] [(.int s0), (.int s1)] M := by
  unfold f_L_law_c243 at H
  refine x_icmp_eq 246 1519 dL_law_246 (by decide) (fun c38 => ?_) (fun c38 => ?_)
  · replace H := x_ifp c38 H
    exact t_L_law_1519 l hκ18 H
  · replace H := x_ifn c38 H
    refine x_iconst 249 (0 : Int32) dL_law_249 (by decide) ?_
    cases H
    exact x_iret 250 dL_law_250 .boolean rfl rfl (Nat.le_of_ble_eq_true rfl) (Nat.le_of_ble_eq_true rfl) ⟨rfl, rfl⟩

def f_L_law_c224 (κ18 : Nat → Nat → Nat → Int32 → XM → Option (Int32 × XM)) (v0 : Nat) (v1 : Nat) (v2 : Nat) (v3 : Int32) (s0 : Int32) (M : XM) : Option (Int32 × XM) :=
  if x_at M v0 5 (v3 + (1 : Int32)) = true then (if v0 < 20 then (if x_at M v0 5 (v3 + (2 : Int32)) = true then (if x_at M v0 5 (v3 + (3 : Int32)) = true then (if x_tag M v2 = 9 + 10 then (x_bd (f_X9_row v2 (x_i M v0 (v3 + (1 : Int32)).toNatClampNeg) (x_i M v0 (v3 + (2 : Int32)).toNatClampNeg) (x_i M v0 (v3 + (3 : Int32)).toNatClampNeg) M) (f_L_law_c243 κ18 v0 v1 v2 v3 s0)) else none) else none) else none) else none) else none
set_option maxRecDepth 20000 in
set_option maxHeartbeats 4000000 in
theorem t_L_law_c224 (l : Launch) {κ18 : Nat → Nat → Nat → Int32 → XM → Option (Int32 × XM)} {v0 : Nat} {v1 : Nat} {v2 : Nat} {v3 : Int32} {s0 : Int32} {M : XM} {q : Int32 × XM} (hκ18 : ∀ (v0 : Nat) (v1 : Nat) (v2 : Nat) (v3 : Int32) (M : XM), κ18 v0 v1 v2 v3 M = some q → AW l m_L_law 33 600000 7302250 (x_Ri q) 90 14893 18 [some (.ref v0), some (.ref v1), some (.ref v2), some (.int v3)] [] M) (H : f_L_law_c224 κ18 v0 v1 v2 v3 s0 M = some q) : AW l m_L_law 33 600000 7302250 (x_Ri q) 90 14893 227 [some (.ref v0), some (.ref v1), some (.ref v2), some (.int v3)] [(.int s0)] M := by
  unfold f_L_law_c224 at H
  refine x_aload_n 227 2 dL_law_227 rfl rfl ?_
  refine x_aload_n 228 0 dL_law_228 rfl rfl ?_
  refine x_iload_n 229 3 dL_law_229 rfl rfl ?_
  refine x_iconst 230 (1 : Int32) dL_law_230 (by decide) ?_
  refine x_iadd 231 dL_law_231 ?_
  obtain ⟨h30, H⟩ := x_ckp H
  obtain ⟨h31, H⟩ := x_ckp H
  refine x_siald 232 dL_law_232 h30 h31 ?_
  refine x_aload_n 233 0 dL_law_233 rfl rfl ?_
  refine x_iload_n 234 3 dL_law_234 rfl rfl ?_
  refine x_iconst 235 (2 : Int32) dL_law_235 (by decide) ?_
  refine x_iadd 236 dL_law_236 ?_
  obtain ⟨h32, H⟩ := x_ckp H
  refine x_siald 237 dL_law_237 h32 h31 ?_
  refine x_aload_n 238 0 dL_law_238 rfl rfl ?_
  refine x_iload_n 239 3 dL_law_239 rfl rfl ?_
  refine x_iconst 240 (3 : Int32) dL_law_240 (by decide) ?_
  refine x_iadd 241 dL_law_241 ?_
  obtain ⟨h33, H⟩ := x_ckp H
  refine x_siald 242 dL_law_242 h33 h31 ?_
  obtain ⟨h34, H⟩ := x_ckp H
  obtain ⟨r36, M35, e37, H⟩ := x_bd_of H
  refine x_callV 243 17 9 [(.int (x_i M v0 (v3 + (1 : Int32)).toNatClampNeg)), (.int (x_i M v0 (v3 + (2 : Int32)).toNatClampNeg)), (.int (x_i M v0 (v3 + (3 : Int32)).toNatClampNeg))] [(.int s0)] dL_law_243 (ct_X9_row l e37) lk_1157 lk_1158 lk_1159 (by decide) h34 lk_94 lk_1160 ⟨cn_X9_row, (by decide), by decide⟩ rfl (Nat.le_of_ble_eq_true rfl) (Nat.le_of_ble_eq_true rfl) (Nat.le_of_ble_eq_true rfl) (x_ri ?_)
  exact t_L_law_c243 l hκ18 H

def f_L_law_208 (κ18 : Nat → Nat → Nat → Int32 → XM → Option (Int32 × XM)) (v0 : Nat) (v1 : Nat) (v2 : Nat) (v3 : Int32) (M : XM) : Option (Int32 × XM) :=
  if x_at M v0 5 (v3 + (1 : Int32)) = true then (if v0 < 20 then (if x_at M v0 5 (v3 + (2 : Int32)) = true then (if x_at M v0 5 (v3 + (3 : Int32)) = true then (if x_tag M v1 = 8 + 10 then (x_bd (f_X8_row v1 (x_i M v0 (v3 + (1 : Int32)).toNatClampNeg) (x_i M v0 (v3 + (2 : Int32)).toNatClampNeg) (x_i M v0 (v3 + (3 : Int32)).toNatClampNeg) M) (f_L_law_c224 κ18 v0 v1 v2 v3)) else none) else none) else none) else none) else none
set_option maxRecDepth 20000 in
set_option maxHeartbeats 4000000 in
theorem t_L_law_208 (l : Launch) {κ18 : Nat → Nat → Nat → Int32 → XM → Option (Int32 × XM)} {v0 : Nat} {v1 : Nat} {v2 : Nat} {v3 : Int32} {M : XM} {q : Int32 × XM} (hκ18 : ∀ (v0 : Nat) (v1 : Nat) (v2 : Nat) (v3 : Int32) (M : XM), κ18 v0 v1 v2 v3 M = some q → AW l m_L_law 33 600000 7302250 (x_Ri q) 90 14893 18 [some (.ref v0), some (.ref v1), some (.ref v2), some (.int v3)] [] M) (H : f_L_law_208 κ18 v0 v1 v2 v3 M = some q) : AW l m_L_law 33 600000 7302250 (x_Ri q) 90 14893 208 [some (.ref v0), some (.ref v1), some (.ref v2), some (.int v3)] [] M := by
  unfold f_L_law_208 at H
  refine x_aload_n 208 1 dL_law_208 rfl rfl ?_
  refine x_aload_n 209 0 dL_law_209 rfl rfl ?_
  refine x_iload_n 210 3 dL_law_210 rfl rfl ?_
  refine x_iconst 211 (1 : Int32) dL_law_211 (by decide) ?_
  refine x_iadd 212 dL_law_212 ?_
  obtain ⟨h22, H⟩ := x_ckp H
  obtain ⟨h23, H⟩ := x_ckp H
  refine x_siald 213 dL_law_213 h22 h23 ?_
  refine x_aload_n 214 0 dL_law_214 rfl rfl ?_
  refine x_iload_n 215 3 dL_law_215 rfl rfl ?_
  refine x_iconst 216 (2 : Int32) dL_law_216 (by decide) ?_
  refine x_iadd 217 dL_law_217 ?_
  obtain ⟨h24, H⟩ := x_ckp H
  refine x_siald 218 dL_law_218 h24 h23 ?_
  refine x_aload_n 219 0 dL_law_219 rfl rfl ?_
  refine x_iload_n 220 3 dL_law_220 rfl rfl ?_
  refine x_iconst 221 (3 : Int32) dL_law_221 (by decide) ?_
  refine x_iadd 222 dL_law_222 ?_
  obtain ⟨h25, H⟩ := x_ckp H
  refine x_siald 223 dL_law_223 h25 h23 ?_
  obtain ⟨h26, H⟩ := x_ckp H
  obtain ⟨r28, M27, e29, H⟩ := x_bd_of H
  refine x_callV 224 13 8 [(.int (x_i M v0 (v3 + (1 : Int32)).toNatClampNeg)), (.int (x_i M v0 (v3 + (2 : Int32)).toNatClampNeg)), (.int (x_i M v0 (v3 + (3 : Int32)).toNatClampNeg))] [] dL_law_224 (ct_X8_row l e29) lk_403 lk_404 lk_405 (by decide) h26 lk_85 lk_406 ⟨cn_X8_row, (by decide), by decide⟩ rfl (Nat.le_of_ble_eq_true rfl) (Nat.le_of_ble_eq_true rfl) (Nat.le_of_ble_eq_true rfl) (x_ri ?_)
  exact t_L_law_c224 l hκ18 H

def f_L_law_c316 (κ18 : Nat → Nat → Nat → Int32 → XM → Option (Int32 × XM)) (v0 : Nat) (v1 : Nat) (v2 : Nat) (v3 : Int32) (s1 : Int32) (s0 : Int32) (M : XM) : Option (Int32 × XM) :=
  if s1 = s0 then (f_L_law_1519 κ18 v0 v1 v2 v3 M) else (some ((0 : Int32), M))
set_option maxRecDepth 20000 in
set_option maxHeartbeats 4000000 in
theorem t_L_law_c316 (l : Launch) {κ18 : Nat → Nat → Nat → Int32 → XM → Option (Int32 × XM)} {v0 : Nat} {v1 : Nat} {v2 : Nat} {v3 : Int32} {s1 : Int32} {s0 : Int32} {M : XM} {q : Int32 × XM} (hκ18 : ∀ (v0 : Nat) (v1 : Nat) (v2 : Nat) (v3 : Int32) (M : XM), κ18 v0 v1 v2 v3 M = some q → AW l m_L_law 33 600000 7302250 (x_Ri q) 90 14893 18 [some (.ref v0), some (.ref v1), some (.ref v2), some (.int v3)] [] M) (H : f_L_law_c316 κ18 v0 v1 v2 v3 s1 s0 M = some q) : AW l m_L_law 33 600000 7302250 (x_Ri q) 90 14893 319 [some (.ref v0), some (.ref v1), some (.ref v2), some (.int v3)] [(.int s0), (.int s1)] M := by
  unfold f_L_law_c316 at H
  refine x_icmp_eq 319 1519 dL_law_319 (by decide) (fun c58 => ?_) (fun c58 => ?_)
  · replace H := x_ifp c58 H
    exact t_L_law_1519 l hκ18 H
  · replace H := x_ifn c58 H
    refine x_iconst 322 (0 : Int32) dL_law_322 (by decide) ?_
    cases H
    exact x_iret 323 dL_law_323 .boolean rfl rfl (Nat.le_of_ble_eq_true rfl) (Nat.le_of_ble_eq_true rfl) ⟨rfl, rfl⟩

def f_L_law_c282 (κ18 : Nat → Nat → Nat → Int32 → XM → Option (Int32 × XM)) (v0 : Nat) (v1 : Nat) (v2 : Nat) (v3 : Int32) (s0 : Int32) (M : XM) : Option (Int32 × XM) :=
  if x_at M v0 5 (v3 + (1 : Int32)) = true then (if v0 < 20 then (if x_at M v0 5 (v3 + (2 : Int32)) = true then (if x_at M v0 5 (v3 + (3 : Int32)) = true then (if x_at M v0 5 (v3 + (4 : Int32)) = true then (if x_tag M v2 = 9 + 10 then (x_bd (f_X9_set v2 (x_i M v0 (v3 + (1 : Int32)).toNatClampNeg) (x_i M v0 (v3 + (2 : Int32)).toNatClampNeg) ((((x_i M v0 (v3 + (3 : Int32)).toNatClampNeg).toInt64) <<< ((32 : Int32).toInt64 &&& 63)) ||| (((x_i M v0 (v3 + (4 : Int32)).toNatClampNeg).toInt64) &&& (4294967295 : Int64))) M) (f_L_law_c316 κ18 v0 v1 v2 v3 s0)) else none) else none) else none) else none) else none) else none
set_option maxRecDepth 20000 in
set_option maxHeartbeats 4000000 in
theorem t_L_law_c282 (l : Launch) {κ18 : Nat → Nat → Nat → Int32 → XM → Option (Int32 × XM)} {v0 : Nat} {v1 : Nat} {v2 : Nat} {v3 : Int32} {s0 : Int32} {M : XM} {q : Int32 × XM} (hκ18 : ∀ (v0 : Nat) (v1 : Nat) (v2 : Nat) (v3 : Int32) (M : XM), κ18 v0 v1 v2 v3 M = some q → AW l m_L_law 33 600000 7302250 (x_Ri q) 90 14893 18 [some (.ref v0), some (.ref v1), some (.ref v2), some (.int v3)] [] M) (H : f_L_law_c282 κ18 v0 v1 v2 v3 s0 M = some q) : AW l m_L_law 33 600000 7302250 (x_Ri q) 90 14893 285 [some (.ref v0), some (.ref v1), some (.ref v2), some (.int v3)] [(.int s0)] M := by
  unfold f_L_law_c282 at H
  refine x_aload_n 285 2 dL_law_285 rfl rfl ?_
  refine x_aload_n 286 0 dL_law_286 rfl rfl ?_
  refine x_iload_n 287 3 dL_law_287 rfl rfl ?_
  refine x_iconst 288 (1 : Int32) dL_law_288 (by decide) ?_
  refine x_iadd 289 dL_law_289 ?_
  obtain ⟨h49, H⟩ := x_ckp H
  obtain ⟨h50, H⟩ := x_ckp H
  refine x_siald 290 dL_law_290 h49 h50 ?_
  refine x_aload_n 291 0 dL_law_291 rfl rfl ?_
  refine x_iload_n 292 3 dL_law_292 rfl rfl ?_
  refine x_iconst 293 (2 : Int32) dL_law_293 (by decide) ?_
  refine x_iadd 294 dL_law_294 ?_
  obtain ⟨h51, H⟩ := x_ckp H
  refine x_siald 295 dL_law_295 h51 h50 ?_
  refine x_aload_n 296 0 dL_law_296 rfl rfl ?_
  refine x_iload_n 297 3 dL_law_297 rfl rfl ?_
  refine x_iconst 298 (3 : Int32) dL_law_298 (by decide) ?_
  refine x_iadd 299 dL_law_299 ?_
  obtain ⟨h52, H⟩ := x_ckp H
  refine x_siald 300 dL_law_300 h52 h50 ?_
  refine x_i2l 301 dL_law_301 ?_
  refine x_bipush 302 (32 : Int32) dL_law_302 (by decide) ?_
  refine x_lshl 304 dL_law_304 ?_
  refine x_aload_n 305 0 dL_law_305 rfl rfl ?_
  refine x_iload_n 306 3 dL_law_306 rfl rfl ?_
  refine x_iconst 307 (4 : Int32) dL_law_307 (by decide) ?_
  refine x_iadd 308 dL_law_308 ?_
  obtain ⟨h53, H⟩ := x_ckp H
  refine x_siald 309 dL_law_309 h53 h50 ?_
  refine x_i2l 310 dL_law_310 ?_
  refine x_ldc2 311 (4294967295 : Int64) dL_law_311 lk_1513 ?_
  refine x_land 314 dL_law_314 ?_
  refine x_lor 315 dL_law_315 ?_
  obtain ⟨h54, H⟩ := x_ckp H
  obtain ⟨r56, M55, e57, H⟩ := x_bd_of H
  refine x_callV 316 24 9 [(.int (x_i M v0 (v3 + (1 : Int32)).toNatClampNeg)), (.int (x_i M v0 (v3 + (2 : Int32)).toNatClampNeg)), (.long ((((x_i M v0 (v3 + (3 : Int32)).toNatClampNeg).toInt64) <<< ((32 : Int32).toInt64 &&& 63)) ||| (((x_i M v0 (v3 + (4 : Int32)).toNatClampNeg).toInt64) &&& (4294967295 : Int64))))] [(.int s0)] dL_law_316 (ct_X9_set l e57) lk_1169 lk_1170 lk_1171 (by decide) h54 lk_94 lk_1172 ⟨cn_X9_set, (by decide), by decide⟩ rfl (Nat.le_of_ble_eq_true rfl) (Nat.le_of_ble_eq_true rfl) (Nat.le_of_ble_eq_true rfl) (x_ri ?_)
  exact t_L_law_c316 l hκ18 H

def f_L_law_251 (κ18 : Nat → Nat → Nat → Int32 → XM → Option (Int32 × XM)) (v0 : Nat) (v1 : Nat) (v2 : Nat) (v3 : Int32) (M : XM) : Option (Int32 × XM) :=
  if x_at M v0 5 (v3 + (1 : Int32)) = true then (if v0 < 20 then (if x_at M v0 5 (v3 + (2 : Int32)) = true then (if x_at M v0 5 (v3 + (3 : Int32)) = true then (if x_at M v0 5 (v3 + (4 : Int32)) = true then (if x_tag M v1 = 8 + 10 then (x_bd (f_X8_set v1 (x_i M v0 (v3 + (1 : Int32)).toNatClampNeg) (x_i M v0 (v3 + (2 : Int32)).toNatClampNeg) ((((x_i M v0 (v3 + (3 : Int32)).toNatClampNeg).toInt64) <<< ((32 : Int32).toInt64 &&& 63)) ||| (((x_i M v0 (v3 + (4 : Int32)).toNatClampNeg).toInt64) &&& (4294967295 : Int64))) M) (f_L_law_c282 κ18 v0 v1 v2 v3)) else none) else none) else none) else none) else none) else none
set_option maxRecDepth 20000 in
set_option maxHeartbeats 4000000 in
theorem t_L_law_251 (l : Launch) {κ18 : Nat → Nat → Nat → Int32 → XM → Option (Int32 × XM)} {v0 : Nat} {v1 : Nat} {v2 : Nat} {v3 : Int32} {M : XM} {q : Int32 × XM} (hκ18 : ∀ (v0 : Nat) (v1 : Nat) (v2 : Nat) (v3 : Int32) (M : XM), κ18 v0 v1 v2 v3 M = some q → AW l m_L_law 33 600000 7302250 (x_Ri q) 90 14893 18 [some (.ref v0), some (.ref v1), some (.ref v2), some (.int v3)] [] M) (H : f_L_law_251 κ18 v0 v1 v2 v3 M = some q) : AW l m_L_law 33 600000 7302250 (x_Ri q) 90 14893 251 [some (.ref v0), some (.ref v1), some (.ref v2), some (.int v3)] [] M := by
  unfold f_L_law_251 at H
  refine x_aload_n 251 1 dL_law_251 rfl rfl ?_
  refine x_aload_n 252 0 dL_law_252 rfl rfl ?_
  refine x_iload_n 253 3 dL_law_253 rfl rfl ?_
  refine x_iconst 254 (1 : Int32) dL_law_254 (by decide) ?_
  refine x_iadd 255 dL_law_255 ?_
  obtain ⟨h40, H⟩ := x_ckp H
  obtain ⟨h41, H⟩ := x_ckp H
  refine x_siald 256 dL_law_256 h40 h41 ?_
  refine x_aload_n 257 0 dL_law_257 rfl rfl ?_
  refine x_iload_n 258 3 dL_law_258 rfl rfl ?_
  refine x_iconst 259 (2 : Int32) dL_law_259 (by decide) ?_
  refine x_iadd 260 dL_law_260 ?_
  obtain ⟨h42, H⟩ := x_ckp H
  refine x_siald 261 dL_law_261 h42 h41 ?_
  refine x_aload_n 262 0 dL_law_262 rfl rfl ?_
  refine x_iload_n 263 3 dL_law_263 rfl rfl ?_
  refine x_iconst 264 (3 : Int32) dL_law_264 (by decide) ?_
  refine x_iadd 265 dL_law_265 ?_
  obtain ⟨h43, H⟩ := x_ckp H
  refine x_siald 266 dL_law_266 h43 h41 ?_
  refine x_i2l 267 dL_law_267 ?_
  refine x_bipush 268 (32 : Int32) dL_law_268 (by decide) ?_
  refine x_lshl 270 dL_law_270 ?_
  refine x_aload_n 271 0 dL_law_271 rfl rfl ?_
  refine x_iload_n 272 3 dL_law_272 rfl rfl ?_
  refine x_iconst 273 (4 : Int32) dL_law_273 (by decide) ?_
  refine x_iadd 274 dL_law_274 ?_
  obtain ⟨h44, H⟩ := x_ckp H
  refine x_siald 275 dL_law_275 h44 h41 ?_
  refine x_i2l 276 dL_law_276 ?_
  refine x_ldc2 277 (4294967295 : Int64) dL_law_277 lk_1513 ?_
  refine x_land 280 dL_law_280 ?_
  refine x_lor 281 dL_law_281 ?_
  obtain ⟨h45, H⟩ := x_ckp H
  obtain ⟨r47, M46, e48, H⟩ := x_bd_of H
  refine x_callV 282 20 8 [(.int (x_i M v0 (v3 + (1 : Int32)).toNatClampNeg)), (.int (x_i M v0 (v3 + (2 : Int32)).toNatClampNeg)), (.long ((((x_i M v0 (v3 + (3 : Int32)).toNatClampNeg).toInt64) <<< ((32 : Int32).toInt64 &&& 63)) ||| (((x_i M v0 (v3 + (4 : Int32)).toNatClampNeg).toInt64) &&& (4294967295 : Int64))))] [] dL_law_282 (ct_X8_set l e48) lk_421 lk_422 lk_423 (by decide) h45 lk_85 lk_424 ⟨cn_X8_set, (by decide), by decide⟩ rfl (Nat.le_of_ble_eq_true rfl) (Nat.le_of_ble_eq_true rfl) (Nat.le_of_ble_eq_true rfl) (x_ri ?_)
  exact t_L_law_c282 l hκ18 H

def f_L_law_c379 (κ18 : Nat → Nat → Nat → Int32 → XM → Option (Int32 × XM)) (v0 : Nat) (v1 : Nat) (v2 : Nat) (v3 : Int32) (s1 : Int32) (s0 : Int32) (M : XM) : Option (Int32 × XM) :=
  if s1 = s0 then (f_L_law_1519 κ18 v0 v1 v2 v3 M) else (some ((0 : Int32), M))
set_option maxRecDepth 20000 in
set_option maxHeartbeats 4000000 in
theorem t_L_law_c379 (l : Launch) {κ18 : Nat → Nat → Nat → Int32 → XM → Option (Int32 × XM)} {v0 : Nat} {v1 : Nat} {v2 : Nat} {v3 : Int32} {s1 : Int32} {s0 : Int32} {M : XM} {q : Int32 × XM} (hκ18 : ∀ (v0 : Nat) (v1 : Nat) (v2 : Nat) (v3 : Int32) (M : XM), κ18 v0 v1 v2 v3 M = some q → AW l m_L_law 33 600000 7302250 (x_Ri q) 90 14893 18 [some (.ref v0), some (.ref v1), some (.ref v2), some (.int v3)] [] M) (H : f_L_law_c379 κ18 v0 v1 v2 v3 s1 s0 M = some q) : AW l m_L_law 33 600000 7302250 (x_Ri q) 90 14893 382 [some (.ref v0), some (.ref v1), some (.ref v2), some (.int v3)] [(.int s0), (.int s1)] M := by
  unfold f_L_law_c379 at H
  refine x_icmp_eq 382 1519 dL_law_382 (by decide) (fun c80 => ?_) (fun c80 => ?_)
  · replace H := x_ifp c80 H
    exact t_L_law_1519 l hκ18 H
  · replace H := x_ifn c80 H
    refine x_iconst 385 (0 : Int32) dL_law_385 (by decide) ?_
    cases H
    exact x_iret 386 dL_law_386 .boolean rfl rfl (Nat.le_of_ble_eq_true rfl) (Nat.le_of_ble_eq_true rfl) ⟨rfl, rfl⟩

def f_L_law_c350 (κ18 : Nat → Nat → Nat → Int32 → XM → Option (Int32 × XM)) (v0 : Nat) (v1 : Nat) (v2 : Nat) (v3 : Int32) (s0 : Int32) (M : XM) : Option (Int32 × XM) :=
  if x_at M v0 5 (v3 + (1 : Int32)) = true then (if v0 < 20 then (if x_at M v0 5 (v3 + (2 : Int32)) = true then (if x_at M v0 5 (v3 + (3 : Int32)) = true then (if x_at M v0 5 (v3 + (4 : Int32)) = true then (if x_at M v0 5 (v3 + (5 : Int32)) = true then (if x_tag M v2 = 9 + 10 then (x_bd (f_X9_copy v2 (x_i M v0 (v3 + (1 : Int32)).toNatClampNeg) (x_i M v0 (v3 + (2 : Int32)).toNatClampNeg) (x_i M v0 (v3 + (3 : Int32)).toNatClampNeg) (x_i M v0 (v3 + (4 : Int32)).toNatClampNeg) (x_i M v0 (v3 + (5 : Int32)).toNatClampNeg) M) (f_L_law_c379 κ18 v0 v1 v2 v3 s0)) else none) else none) else none) else none) else none) else none) else none
set_option maxRecDepth 20000 in
set_option maxHeartbeats 4000000 in
theorem t_L_law_c350 (l : Launch) {κ18 : Nat → Nat → Nat → Int32 → XM → Option (Int32 × XM)} {v0 : Nat} {v1 : Nat} {v2 : Nat} {v3 : Int32} {s0 : Int32} {M : XM} {q : Int32 × XM} (hκ18 : ∀ (v0 : Nat) (v1 : Nat) (v2 : Nat) (v3 : Int32) (M : XM), κ18 v0 v1 v2 v3 M = some q → AW l m_L_law 33 600000 7302250 (x_Ri q) 90 14893 18 [some (.ref v0), some (.ref v1), some (.ref v2), some (.int v3)] [] M) (H : f_L_law_c350 κ18 v0 v1 v2 v3 s0 M = some q) : AW l m_L_law 33 600000 7302250 (x_Ri q) 90 14893 353 [some (.ref v0), some (.ref v1), some (.ref v2), some (.int v3)] [(.int s0)] M := by
  unfold f_L_law_c350 at H
  refine x_aload_n 353 2 dL_law_353 rfl rfl ?_
  refine x_aload_n 354 0 dL_law_354 rfl rfl ?_
  refine x_iload_n 355 3 dL_law_355 rfl rfl ?_
  refine x_iconst 356 (1 : Int32) dL_law_356 (by decide) ?_
  refine x_iadd 357 dL_law_357 ?_
  obtain ⟨h70, H⟩ := x_ckp H
  obtain ⟨h71, H⟩ := x_ckp H
  refine x_siald 358 dL_law_358 h70 h71 ?_
  refine x_aload_n 359 0 dL_law_359 rfl rfl ?_
  refine x_iload_n 360 3 dL_law_360 rfl rfl ?_
  refine x_iconst 361 (2 : Int32) dL_law_361 (by decide) ?_
  refine x_iadd 362 dL_law_362 ?_
  obtain ⟨h72, H⟩ := x_ckp H
  refine x_siald 363 dL_law_363 h72 h71 ?_
  refine x_aload_n 364 0 dL_law_364 rfl rfl ?_
  refine x_iload_n 365 3 dL_law_365 rfl rfl ?_
  refine x_iconst 366 (3 : Int32) dL_law_366 (by decide) ?_
  refine x_iadd 367 dL_law_367 ?_
  obtain ⟨h73, H⟩ := x_ckp H
  refine x_siald 368 dL_law_368 h73 h71 ?_
  refine x_aload_n 369 0 dL_law_369 rfl rfl ?_
  refine x_iload_n 370 3 dL_law_370 rfl rfl ?_
  refine x_iconst 371 (4 : Int32) dL_law_371 (by decide) ?_
  refine x_iadd 372 dL_law_372 ?_
  obtain ⟨h74, H⟩ := x_ckp H
  refine x_siald 373 dL_law_373 h74 h71 ?_
  refine x_aload_n 374 0 dL_law_374 rfl rfl ?_
  refine x_iload_n 375 3 dL_law_375 rfl rfl ?_
  refine x_iconst 376 (5 : Int32) dL_law_376 (by decide) ?_
  refine x_iadd 377 dL_law_377 ?_
  obtain ⟨h75, H⟩ := x_ckp H
  refine x_siald 378 dL_law_378 h75 h71 ?_
  obtain ⟨h76, H⟩ := x_ckp H
  obtain ⟨r78, M77, e79, H⟩ := x_bd_of H
  refine x_callV 379 29 9 [(.int (x_i M v0 (v3 + (1 : Int32)).toNatClampNeg)), (.int (x_i M v0 (v3 + (2 : Int32)).toNatClampNeg)), (.int (x_i M v0 (v3 + (3 : Int32)).toNatClampNeg)), (.int (x_i M v0 (v3 + (4 : Int32)).toNatClampNeg)), (.int (x_i M v0 (v3 + (5 : Int32)).toNatClampNeg))] [(.int s0)] dL_law_379 (ct_X9_copy l e79) lk_1173 lk_1174 lk_1175 (by decide) h76 lk_94 lk_1176 ⟨cn_X9_copy, (by decide), by decide⟩ rfl (Nat.le_of_ble_eq_true rfl) (Nat.le_of_ble_eq_true rfl) (Nat.le_of_ble_eq_true rfl) (x_ri ?_)
  exact t_L_law_c379 l hκ18 H

def f_L_law_324 (κ18 : Nat → Nat → Nat → Int32 → XM → Option (Int32 × XM)) (v0 : Nat) (v1 : Nat) (v2 : Nat) (v3 : Int32) (M : XM) : Option (Int32 × XM) :=
  if x_at M v0 5 (v3 + (1 : Int32)) = true then (if v0 < 20 then (if x_at M v0 5 (v3 + (2 : Int32)) = true then (if x_at M v0 5 (v3 + (3 : Int32)) = true then (if x_at M v0 5 (v3 + (4 : Int32)) = true then (if x_at M v0 5 (v3 + (5 : Int32)) = true then (if x_tag M v1 = 8 + 10 then (x_bd (f_X8_copy v1 (x_i M v0 (v3 + (1 : Int32)).toNatClampNeg) (x_i M v0 (v3 + (2 : Int32)).toNatClampNeg) (x_i M v0 (v3 + (3 : Int32)).toNatClampNeg) (x_i M v0 (v3 + (4 : Int32)).toNatClampNeg) (x_i M v0 (v3 + (5 : Int32)).toNatClampNeg) M) (f_L_law_c350 κ18 v0 v1 v2 v3)) else none) else none) else none) else none) else none) else none) else none
set_option maxRecDepth 20000 in
set_option maxHeartbeats 4000000 in
theorem t_L_law_324 (l : Launch) {κ18 : Nat → Nat → Nat → Int32 → XM → Option (Int32 × XM)} {v0 : Nat} {v1 : Nat} {v2 : Nat} {v3 : Int32} {M : XM} {q : Int32 × XM} (hκ18 : ∀ (v0 : Nat) (v1 : Nat) (v2 : Nat) (v3 : Int32) (M : XM), κ18 v0 v1 v2 v3 M = some q → AW l m_L_law 33 600000 7302250 (x_Ri q) 90 14893 18 [some (.ref v0), some (.ref v1), some (.ref v2), some (.int v3)] [] M) (H : f_L_law_324 κ18 v0 v1 v2 v3 M = some q) : AW l m_L_law 33 600000 7302250 (x_Ri q) 90 14893 324 [some (.ref v0), some (.ref v1), some (.ref v2), some (.int v3)] [] M := by
  unfold f_L_law_324 at H
  refine x_aload_n 324 1 dL_law_324 rfl rfl ?_
  refine x_aload_n 325 0 dL_law_325 rfl rfl ?_
  refine x_iload_n 326 3 dL_law_326 rfl rfl ?_
  refine x_iconst 327 (1 : Int32) dL_law_327 (by decide) ?_
  refine x_iadd 328 dL_law_328 ?_
  obtain ⟨h60, H⟩ := x_ckp H
  obtain ⟨h61, H⟩ := x_ckp H
  refine x_siald 329 dL_law_329 h60 h61 ?_
  refine x_aload_n 330 0 dL_law_330 rfl rfl ?_
  refine x_iload_n 331 3 dL_law_331 rfl rfl ?_
  refine x_iconst 332 (2 : Int32) dL_law_332 (by decide) ?_
  refine x_iadd 333 dL_law_333 ?_
  obtain ⟨h62, H⟩ := x_ckp H
  refine x_siald 334 dL_law_334 h62 h61 ?_
  refine x_aload_n 335 0 dL_law_335 rfl rfl ?_
  refine x_iload_n 336 3 dL_law_336 rfl rfl ?_
  refine x_iconst 337 (3 : Int32) dL_law_337 (by decide) ?_
  refine x_iadd 338 dL_law_338 ?_
  obtain ⟨h63, H⟩ := x_ckp H
  refine x_siald 339 dL_law_339 h63 h61 ?_
  refine x_aload_n 340 0 dL_law_340 rfl rfl ?_
  refine x_iload_n 341 3 dL_law_341 rfl rfl ?_
  refine x_iconst 342 (4 : Int32) dL_law_342 (by decide) ?_
  refine x_iadd 343 dL_law_343 ?_
  obtain ⟨h64, H⟩ := x_ckp H
  refine x_siald 344 dL_law_344 h64 h61 ?_
  refine x_aload_n 345 0 dL_law_345 rfl rfl ?_
  refine x_iload_n 346 3 dL_law_346 rfl rfl ?_
  refine x_iconst 347 (5 : Int32) dL_law_347 (by decide) ?_
  refine x_iadd 348 dL_law_348 ?_
  obtain ⟨h65, H⟩ := x_ckp H
  refine x_siald 349 dL_law_349 h65 h61 ?_
  obtain ⟨h66, H⟩ := x_ckp H
  obtain ⟨r68, M67, e69, H⟩ := x_bd_of H
  refine x_callV 350 25 8 [(.int (x_i M v0 (v3 + (1 : Int32)).toNatClampNeg)), (.int (x_i M v0 (v3 + (2 : Int32)).toNatClampNeg)), (.int (x_i M v0 (v3 + (3 : Int32)).toNatClampNeg)), (.int (x_i M v0 (v3 + (4 : Int32)).toNatClampNeg)), (.int (x_i M v0 (v3 + (5 : Int32)).toNatClampNeg))] [] dL_law_350 (ct_X8_copy l e69) lk_450 lk_451 lk_452 (by decide) h66 lk_85 lk_453 ⟨cn_X8_copy, (by decide), by decide⟩ rfl (Nat.le_of_ble_eq_true rfl) (Nat.le_of_ble_eq_true rfl) (Nat.le_of_ble_eq_true rfl) (x_ri ?_)
  exact t_L_law_c350 l hκ18 H

def f_L_law_c412 (κ18 : Nat → Nat → Nat → Int32 → XM → Option (Int32 × XM)) (v0 : Nat) (v1 : Nat) (v2 : Nat) (v3 : Int32) (s1 : Int64) (s0 : Int64) (M : XM) : Option (Int32 × XM) :=
  if (lg_cmp s1 s0) = 0 then (f_L_law_1519 κ18 v0 v1 v2 v3 M) else (some ((0 : Int32), M))
set_option maxRecDepth 20000 in
set_option maxHeartbeats 4000000 in
theorem t_L_law_c412 (l : Launch) {κ18 : Nat → Nat → Nat → Int32 → XM → Option (Int32 × XM)} {v0 : Nat} {v1 : Nat} {v2 : Nat} {v3 : Int32} {s1 : Int64} {s0 : Int64} {M : XM} {q : Int32 × XM} (hκ18 : ∀ (v0 : Nat) (v1 : Nat) (v2 : Nat) (v3 : Int32) (M : XM), κ18 v0 v1 v2 v3 M = some q → AW l m_L_law 33 600000 7302250 (x_Ri q) 90 14893 18 [some (.ref v0), some (.ref v1), some (.ref v2), some (.int v3)] [] M) (H : f_L_law_c412 κ18 v0 v1 v2 v3 s1 s0 M = some q) : AW l m_L_law 33 600000 7302250 (x_Ri q) 90 14893 415 [some (.ref v0), some (.ref v1), some (.ref v2), some (.int v3)] [(.long s0), (.long s1)] M := by
  unfold f_L_law_c412 at H
  refine x_lcmp 415 dL_law_415 ?_
  refine x_if_eq 416 1519 dL_law_416 (by decide) (fun c96 => ?_) (fun c96 => ?_)
  · replace H := x_ifp c96 H
    exact t_L_law_1519 l hκ18 H
  · replace H := x_ifn c96 H
    refine x_iconst 419 (0 : Int32) dL_law_419 (by decide) ?_
    cases H
    exact x_iret 420 dL_law_420 .boolean rfl rfl (Nat.le_of_ble_eq_true rfl) (Nat.le_of_ble_eq_true rfl) ⟨rfl, rfl⟩

def f_L_law_c398 (κ18 : Nat → Nat → Nat → Int32 → XM → Option (Int32 × XM)) (v0 : Nat) (v1 : Nat) (v2 : Nat) (v3 : Int32) (s0 : Int64) (M : XM) : Option (Int32 × XM) :=
  if x_at M v0 5 (v3 + (1 : Int32)) = true then (if v0 < 20 then (if x_at M v0 5 (v3 + (2 : Int32)) = true then (if x_tag M v2 = 9 + 10 then (x_bd (f_X9_element v2 (x_i M v0 (v3 + (1 : Int32)).toNatClampNeg) (x_i M v0 (v3 + (2 : Int32)).toNatClampNeg) M) (f_L_law_c412 κ18 v0 v1 v2 v3 s0)) else none) else none) else none) else none
set_option maxRecDepth 20000 in
set_option maxHeartbeats 4000000 in
theorem t_L_law_c398 (l : Launch) {κ18 : Nat → Nat → Nat → Int32 → XM → Option (Int32 × XM)} {v0 : Nat} {v1 : Nat} {v2 : Nat} {v3 : Int32} {s0 : Int64} {M : XM} {q : Int32 × XM} (hκ18 : ∀ (v0 : Nat) (v1 : Nat) (v2 : Nat) (v3 : Int32) (M : XM), κ18 v0 v1 v2 v3 M = some q → AW l m_L_law 33 600000 7302250 (x_Ri q) 90 14893 18 [some (.ref v0), some (.ref v1), some (.ref v2), some (.int v3)] [] M) (H : f_L_law_c398 κ18 v0 v1 v2 v3 s0 M = some q) : AW l m_L_law 33 600000 7302250 (x_Ri q) 90 14893 401 [some (.ref v0), some (.ref v1), some (.ref v2), some (.int v3)] [(.long s0)] M := by
  unfold f_L_law_c398 at H
  refine x_aload_n 401 2 dL_law_401 rfl rfl ?_
  refine x_aload_n 402 0 dL_law_402 rfl rfl ?_
  refine x_iload_n 403 3 dL_law_403 rfl rfl ?_
  refine x_iconst 404 (1 : Int32) dL_law_404 (by decide) ?_
  refine x_iadd 405 dL_law_405 ?_
  obtain ⟨h89, H⟩ := x_ckp H
  obtain ⟨h90, H⟩ := x_ckp H
  refine x_siald 406 dL_law_406 h89 h90 ?_
  refine x_aload_n 407 0 dL_law_407 rfl rfl ?_
  refine x_iload_n 408 3 dL_law_408 rfl rfl ?_
  refine x_iconst 409 (2 : Int32) dL_law_409 (by decide) ?_
  refine x_iadd 410 dL_law_410 ?_
  obtain ⟨h91, H⟩ := x_ckp H
  refine x_siald 411 dL_law_411 h91 h90 ?_
  obtain ⟨h92, H⟩ := x_ckp H
  obtain ⟨r94, M93, e95, H⟩ := x_bd_of H
  refine x_callV 412 34 9 [(.int (x_i M v0 (v3 + (1 : Int32)).toNatClampNeg)), (.int (x_i M v0 (v3 + (2 : Int32)).toNatClampNeg))] [(.long s0)] dL_law_412 (ct_X9_element l e95) lk_1177 lk_1178 lk_1179 (by decide) h92 lk_94 lk_1180 ⟨cn_X9_element, (by decide), by decide⟩ rfl (Nat.le_of_ble_eq_true rfl) (Nat.le_of_ble_eq_true rfl) (Nat.le_of_ble_eq_true rfl) (x_rl ?_)
  exact t_L_law_c412 l hκ18 H

def f_L_law_387 (κ18 : Nat → Nat → Nat → Int32 → XM → Option (Int32 × XM)) (v0 : Nat) (v1 : Nat) (v2 : Nat) (v3 : Int32) (M : XM) : Option (Int32 × XM) :=
  if x_at M v0 5 (v3 + (1 : Int32)) = true then (if v0 < 20 then (if x_at M v0 5 (v3 + (2 : Int32)) = true then (if x_tag M v1 = 8 + 10 then (x_bd (f_X8_element v1 (x_i M v0 (v3 + (1 : Int32)).toNatClampNeg) (x_i M v0 (v3 + (2 : Int32)).toNatClampNeg) M) (f_L_law_c398 κ18 v0 v1 v2 v3)) else none) else none) else none) else none
set_option maxRecDepth 20000 in
set_option maxHeartbeats 4000000 in
theorem t_L_law_387 (l : Launch) {κ18 : Nat → Nat → Nat → Int32 → XM → Option (Int32 × XM)} {v0 : Nat} {v1 : Nat} {v2 : Nat} {v3 : Int32} {M : XM} {q : Int32 × XM} (hκ18 : ∀ (v0 : Nat) (v1 : Nat) (v2 : Nat) (v3 : Int32) (M : XM), κ18 v0 v1 v2 v3 M = some q → AW l m_L_law 33 600000 7302250 (x_Ri q) 90 14893 18 [some (.ref v0), some (.ref v1), some (.ref v2), some (.int v3)] [] M) (H : f_L_law_387 κ18 v0 v1 v2 v3 M = some q) : AW l m_L_law 33 600000 7302250 (x_Ri q) 90 14893 387 [some (.ref v0), some (.ref v1), some (.ref v2), some (.int v3)] [] M := by
  unfold f_L_law_387 at H
  refine x_aload_n 387 1 dL_law_387 rfl rfl ?_
  refine x_aload_n 388 0 dL_law_388 rfl rfl ?_
  refine x_iload_n 389 3 dL_law_389 rfl rfl ?_
  refine x_iconst 390 (1 : Int32) dL_law_390 (by decide) ?_
  refine x_iadd 391 dL_law_391 ?_
  obtain ⟨h82, H⟩ := x_ckp H
  obtain ⟨h83, H⟩ := x_ckp H
  refine x_siald 392 dL_law_392 h82 h83 ?_
  refine x_aload_n 393 0 dL_law_393 rfl rfl ?_
  refine x_iload_n 394 3 dL_law_394 rfl rfl ?_
  refine x_iconst 395 (2 : Int32) dL_law_395 (by decide) ?_
  refine x_iadd 396 dL_law_396 ?_
  obtain ⟨h84, H⟩ := x_ckp H
  refine x_siald 397 dL_law_397 h84 h83 ?_
  obtain ⟨h85, H⟩ := x_ckp H
  obtain ⟨r87, M86, e88, H⟩ := x_bd_of H
  refine x_callV 398 30 8 [(.int (x_i M v0 (v3 + (1 : Int32)).toNatClampNeg)), (.int (x_i M v0 (v3 + (2 : Int32)).toNatClampNeg))] [] dL_law_398 (ct_X8_element l e88) lk_466 lk_467 lk_468 (by decide) h85 lk_85 lk_469 ⟨cn_X8_element, (by decide), by decide⟩ rfl (Nat.le_of_ble_eq_true rfl) (Nat.le_of_ble_eq_true rfl) (Nat.le_of_ble_eq_true rfl) (x_rl ?_)
  exact t_L_law_c398 l hκ18 H

def f_L_law_c446 (κ18 : Nat → Nat → Nat → Int32 → XM → Option (Int32 × XM)) (v0 : Nat) (v1 : Nat) (v2 : Nat) (v3 : Int32) (s1 : Int32) (s0 : Int32) (M : XM) : Option (Int32 × XM) :=
  if s1 = s0 then (f_L_law_1519 κ18 v0 v1 v2 v3 M) else (some ((0 : Int32), M))
set_option maxRecDepth 20000 in
set_option maxHeartbeats 4000000 in
theorem t_L_law_c446 (l : Launch) {κ18 : Nat → Nat → Nat → Int32 → XM → Option (Int32 × XM)} {v0 : Nat} {v1 : Nat} {v2 : Nat} {v3 : Int32} {s1 : Int32} {s0 : Int32} {M : XM} {q : Int32 × XM} (hκ18 : ∀ (v0 : Nat) (v1 : Nat) (v2 : Nat) (v3 : Int32) (M : XM), κ18 v0 v1 v2 v3 M = some q → AW l m_L_law 33 600000 7302250 (x_Ri q) 90 14893 18 [some (.ref v0), some (.ref v1), some (.ref v2), some (.int v3)] [] M) (H : f_L_law_c446 κ18 v0 v1 v2 v3 s1 s0 M = some q) : AW l m_L_law 33 600000 7302250 (x_Ri q) 90 14893 449 [some (.ref v0), some (.ref v1), some (.ref v2), some (.int v3)] [(.int s0), (.int s1)] M := by
  unfold f_L_law_c446 at H
  refine x_icmp_eq 449 1519 dL_law_449 (by decide) (fun c112 => ?_) (fun c112 => ?_)
  · replace H := x_ifp c112 H
    exact t_L_law_1519 l hκ18 H
  · replace H := x_ifn c112 H
    refine x_iconst 452 (0 : Int32) dL_law_452 (by decide) ?_
    cases H
    exact x_iret 453 dL_law_453 .boolean rfl rfl (Nat.le_of_ble_eq_true rfl) (Nat.le_of_ble_eq_true rfl) ⟨rfl, rfl⟩

def f_L_law_c432 (κ18 : Nat → Nat → Nat → Int32 → XM → Option (Int32 × XM)) (v0 : Nat) (v1 : Nat) (v2 : Nat) (v3 : Int32) (s0 : Int32) (M : XM) : Option (Int32 × XM) :=
  if x_at M v0 5 (v3 + (1 : Int32)) = true then (if v0 < 20 then (if x_at M v0 5 (v3 + (2 : Int32)) = true then (if x_tag M v2 = 9 + 10 then (x_bd (f_X9_show v2 (x_i M v0 (v3 + (1 : Int32)).toNatClampNeg) (x_i M v0 (v3 + (2 : Int32)).toNatClampNeg) M) (f_L_law_c446 κ18 v0 v1 v2 v3 s0)) else none) else none) else none) else none
set_option maxRecDepth 20000 in
set_option maxHeartbeats 4000000 in
theorem t_L_law_c432 (l : Launch) {κ18 : Nat → Nat → Nat → Int32 → XM → Option (Int32 × XM)} {v0 : Nat} {v1 : Nat} {v2 : Nat} {v3 : Int32} {s0 : Int32} {M : XM} {q : Int32 × XM} (hκ18 : ∀ (v0 : Nat) (v1 : Nat) (v2 : Nat) (v3 : Int32) (M : XM), κ18 v0 v1 v2 v3 M = some q → AW l m_L_law 33 600000 7302250 (x_Ri q) 90 14893 18 [some (.ref v0), some (.ref v1), some (.ref v2), some (.int v3)] [] M) (H : f_L_law_c432 κ18 v0 v1 v2 v3 s0 M = some q) : AW l m_L_law 33 600000 7302250 (x_Ri q) 90 14893 435 [some (.ref v0), some (.ref v1), some (.ref v2), some (.int v3)] [(.int s0)] M := by
  unfold f_L_law_c432 at H
  refine x_aload_n 435 2 dL_law_435 rfl rfl ?_
  refine x_aload_n 436 0 dL_law_436 rfl rfl ?_
  refine x_iload_n 437 3 dL_law_437 rfl rfl ?_
  refine x_iconst 438 (1 : Int32) dL_law_438 (by decide) ?_
  refine x_iadd 439 dL_law_439 ?_
  obtain ⟨h105, H⟩ := x_ckp H
  obtain ⟨h106, H⟩ := x_ckp H
  refine x_siald 440 dL_law_440 h105 h106 ?_
  refine x_aload_n 441 0 dL_law_441 rfl rfl ?_
  refine x_iload_n 442 3 dL_law_442 rfl rfl ?_
  refine x_iconst 443 (2 : Int32) dL_law_443 (by decide) ?_
  refine x_iadd 444 dL_law_444 ?_
  obtain ⟨h107, H⟩ := x_ckp H
  refine x_siald 445 dL_law_445 h107 h106 ?_
  obtain ⟨h108, H⟩ := x_ckp H
  obtain ⟨r110, M109, e111, H⟩ := x_bd_of H
  refine x_callV 446 39 9 [(.int (x_i M v0 (v3 + (1 : Int32)).toNatClampNeg)), (.int (x_i M v0 (v3 + (2 : Int32)).toNatClampNeg))] [(.int s0)] dL_law_446 (ct_X9_show l e111) lk_1181 lk_1182 lk_1183 (by decide) h108 lk_94 lk_1184 ⟨cn_X9_show, (by decide), by decide⟩ rfl (Nat.le_of_ble_eq_true rfl) (Nat.le_of_ble_eq_true rfl) (Nat.le_of_ble_eq_true rfl) (x_ri ?_)
  exact t_L_law_c446 l hκ18 H

def f_L_law_421 (κ18 : Nat → Nat → Nat → Int32 → XM → Option (Int32 × XM)) (v0 : Nat) (v1 : Nat) (v2 : Nat) (v3 : Int32) (M : XM) : Option (Int32 × XM) :=
  if x_at M v0 5 (v3 + (1 : Int32)) = true then (if v0 < 20 then (if x_at M v0 5 (v3 + (2 : Int32)) = true then (if x_tag M v1 = 8 + 10 then (x_bd (f_X8_show v1 (x_i M v0 (v3 + (1 : Int32)).toNatClampNeg) (x_i M v0 (v3 + (2 : Int32)).toNatClampNeg) M) (f_L_law_c432 κ18 v0 v1 v2 v3)) else none) else none) else none) else none
set_option maxRecDepth 20000 in
set_option maxHeartbeats 4000000 in
theorem t_L_law_421 (l : Launch) {κ18 : Nat → Nat → Nat → Int32 → XM → Option (Int32 × XM)} {v0 : Nat} {v1 : Nat} {v2 : Nat} {v3 : Int32} {M : XM} {q : Int32 × XM} (hκ18 : ∀ (v0 : Nat) (v1 : Nat) (v2 : Nat) (v3 : Int32) (M : XM), κ18 v0 v1 v2 v3 M = some q → AW l m_L_law 33 600000 7302250 (x_Ri q) 90 14893 18 [some (.ref v0), some (.ref v1), some (.ref v2), some (.int v3)] [] M) (H : f_L_law_421 κ18 v0 v1 v2 v3 M = some q) : AW l m_L_law 33 600000 7302250 (x_Ri q) 90 14893 421 [some (.ref v0), some (.ref v1), some (.ref v2), some (.int v3)] [] M := by
  unfold f_L_law_421 at H
  refine x_aload_n 421 1 dL_law_421 rfl rfl ?_
  refine x_aload_n 422 0 dL_law_422 rfl rfl ?_
  refine x_iload_n 423 3 dL_law_423 rfl rfl ?_
  refine x_iconst 424 (1 : Int32) dL_law_424 (by decide) ?_
  refine x_iadd 425 dL_law_425 ?_
  obtain ⟨h98, H⟩ := x_ckp H
  obtain ⟨h99, H⟩ := x_ckp H
  refine x_siald 426 dL_law_426 h98 h99 ?_
  refine x_aload_n 427 0 dL_law_427 rfl rfl ?_
  refine x_iload_n 428 3 dL_law_428 rfl rfl ?_
  refine x_iconst 429 (2 : Int32) dL_law_429 (by decide) ?_
  refine x_iadd 430 dL_law_430 ?_
  obtain ⟨h100, H⟩ := x_ckp H
  refine x_siald 431 dL_law_431 h100 h99 ?_
  obtain ⟨h101, H⟩ := x_ckp H
  obtain ⟨r103, M102, e104, H⟩ := x_bd_of H
  refine x_callV 432 35 8 [(.int (x_i M v0 (v3 + (1 : Int32)).toNatClampNeg)), (.int (x_i M v0 (v3 + (2 : Int32)).toNatClampNeg))] [] dL_law_432 (ct_X8_show l e104) lk_474 lk_475 lk_476 (by decide) h101 lk_85 lk_477 ⟨cn_X8_show, (by decide), by decide⟩ rfl (Nat.le_of_ble_eq_true rfl) (Nat.le_of_ble_eq_true rfl) (Nat.le_of_ble_eq_true rfl) (x_ri ?_)
  exact t_L_law_c432 l hκ18 H

def f_L_law_c469 (κ18 : Nat → Nat → Nat → Int32 → XM → Option (Int32 × XM)) (v0 : Nat) (v1 : Nat) (v2 : Nat) (v3 : Int32) (s1 : Int32) (s0 : Int32) (M : XM) : Option (Int32 × XM) :=
  if s1 = s0 then (f_L_law_1519 κ18 v0 v1 v2 v3 M) else (some ((0 : Int32), M))
set_option maxRecDepth 20000 in
set_option maxHeartbeats 4000000 in
theorem t_L_law_c469 (l : Launch) {κ18 : Nat → Nat → Nat → Int32 → XM → Option (Int32 × XM)} {v0 : Nat} {v1 : Nat} {v2 : Nat} {v3 : Int32} {s1 : Int32} {s0 : Int32} {M : XM} {q : Int32 × XM} (hκ18 : ∀ (v0 : Nat) (v1 : Nat) (v2 : Nat) (v3 : Int32) (M : XM), κ18 v0 v1 v2 v3 M = some q → AW l m_L_law 33 600000 7302250 (x_Ri q) 90 14893 18 [some (.ref v0), some (.ref v1), some (.ref v2), some (.int v3)] [] M) (H : f_L_law_c469 κ18 v0 v1 v2 v3 s1 s0 M = some q) : AW l m_L_law 33 600000 7302250 (x_Ri q) 90 14893 472 [some (.ref v0), some (.ref v1), some (.ref v2), some (.int v3)] [(.int s0), (.int s1)] M := by
  unfold f_L_law_c469 at H
  refine x_icmp_eq 472 1519 dL_law_472 (by decide) (fun c126 => ?_) (fun c126 => ?_)
  · replace H := x_ifp c126 H
    exact t_L_law_1519 l hκ18 H
  · replace H := x_ifn c126 H
    refine x_iconst 475 (0 : Int32) dL_law_475 (by decide) ?_
    cases H
    exact x_iret 476 dL_law_476 .boolean rfl rfl (Nat.le_of_ble_eq_true rfl) (Nat.le_of_ble_eq_true rfl) ⟨rfl, rfl⟩

def f_L_law_c460 (κ18 : Nat → Nat → Nat → Int32 → XM → Option (Int32 × XM)) (v0 : Nat) (v1 : Nat) (v2 : Nat) (v3 : Int32) (s0 : Int32) (M : XM) : Option (Int32 × XM) :=
  if x_at M v0 5 (v3 + (1 : Int32)) = true then (if v0 < 20 then (if x_tag M v2 = 9 + 10 then (x_bd (f_X9_holds v2 (x_i M v0 (v3 + (1 : Int32)).toNatClampNeg) M) (f_L_law_c469 κ18 v0 v1 v2 v3 s0)) else none) else none) else none
set_option maxRecDepth 20000 in
set_option maxHeartbeats 4000000 in
theorem t_L_law_c460 (l : Launch) {κ18 : Nat → Nat → Nat → Int32 → XM → Option (Int32 × XM)} {v0 : Nat} {v1 : Nat} {v2 : Nat} {v3 : Int32} {s0 : Int32} {M : XM} {q : Int32 × XM} (hκ18 : ∀ (v0 : Nat) (v1 : Nat) (v2 : Nat) (v3 : Int32) (M : XM), κ18 v0 v1 v2 v3 M = some q → AW l m_L_law 33 600000 7302250 (x_Ri q) 90 14893 18 [some (.ref v0), some (.ref v1), some (.ref v2), some (.int v3)] [] M) (H : f_L_law_c460 κ18 v0 v1 v2 v3 s0 M = some q) : AW l m_L_law 33 600000 7302250 (x_Ri q) 90 14893 463 [some (.ref v0), some (.ref v1), some (.ref v2), some (.int v3)] [(.int s0)] M := by
  unfold f_L_law_c460 at H
  refine x_aload_n 463 2 dL_law_463 rfl rfl ?_
  refine x_aload_n 464 0 dL_law_464 rfl rfl ?_
  refine x_iload_n 465 3 dL_law_465 rfl rfl ?_
  refine x_iconst 466 (1 : Int32) dL_law_466 (by decide) ?_
  refine x_iadd 467 dL_law_467 ?_
  obtain ⟨h120, H⟩ := x_ckp H
  obtain ⟨h121, H⟩ := x_ckp H
  refine x_siald 468 dL_law_468 h120 h121 ?_
  obtain ⟨h122, H⟩ := x_ckp H
  obtain ⟨r124, M123, e125, H⟩ := x_bd_of H
  refine x_callV 469 44 9 [(.int (x_i M v0 (v3 + (1 : Int32)).toNatClampNeg))] [(.int s0)] dL_law_469 (ct_X9_holds l e125) lk_1189 lk_1190 lk_1191 (by decide) h122 lk_94 lk_1192 ⟨cn_X9_holds, (by decide), by decide⟩ rfl (Nat.le_of_ble_eq_true rfl) (Nat.le_of_ble_eq_true rfl) (Nat.le_of_ble_eq_true rfl) (x_ri ?_)
  exact t_L_law_c469 l hκ18 H

def f_L_law_454 (κ18 : Nat → Nat → Nat → Int32 → XM → Option (Int32 × XM)) (v0 : Nat) (v1 : Nat) (v2 : Nat) (v3 : Int32) (M : XM) : Option (Int32 × XM) :=
  if x_at M v0 5 (v3 + (1 : Int32)) = true then (if v0 < 20 then (if x_tag M v1 = 8 + 10 then (x_bd (f_X8_holds v1 (x_i M v0 (v3 + (1 : Int32)).toNatClampNeg) M) (f_L_law_c460 κ18 v0 v1 v2 v3)) else none) else none) else none
set_option maxRecDepth 20000 in
set_option maxHeartbeats 4000000 in
theorem t_L_law_454 (l : Launch) {κ18 : Nat → Nat → Nat → Int32 → XM → Option (Int32 × XM)} {v0 : Nat} {v1 : Nat} {v2 : Nat} {v3 : Int32} {M : XM} {q : Int32 × XM} (hκ18 : ∀ (v0 : Nat) (v1 : Nat) (v2 : Nat) (v3 : Int32) (M : XM), κ18 v0 v1 v2 v3 M = some q → AW l m_L_law 33 600000 7302250 (x_Ri q) 90 14893 18 [some (.ref v0), some (.ref v1), some (.ref v2), some (.int v3)] [] M) (H : f_L_law_454 κ18 v0 v1 v2 v3 M = some q) : AW l m_L_law 33 600000 7302250 (x_Ri q) 90 14893 454 [some (.ref v0), some (.ref v1), some (.ref v2), some (.int v3)] [] M := by
  unfold f_L_law_454 at H
  refine x_aload_n 454 1 dL_law_454 rfl rfl ?_
  refine x_aload_n 455 0 dL_law_455 rfl rfl ?_
  refine x_iload_n 456 3 dL_law_456 rfl rfl ?_
  refine x_iconst 457 (1 : Int32) dL_law_457 (by decide) ?_
  refine x_iadd 458 dL_law_458 ?_
  obtain ⟨h114, H⟩ := x_ckp H
  obtain ⟨h115, H⟩ := x_ckp H
  refine x_siald 459 dL_law_459 h114 h115 ?_
  obtain ⟨h116, H⟩ := x_ckp H
  obtain ⟨r118, M117, e119, H⟩ := x_bd_of H
  refine x_callV 460 40 8 [(.int (x_i M v0 (v3 + (1 : Int32)).toNatClampNeg))] [] dL_law_460 (ct_X8_holds l e119) lk_486 lk_487 lk_488 (by decide) h116 lk_85 lk_489 ⟨cn_X8_holds, (by decide), by decide⟩ rfl (Nat.le_of_ble_eq_true rfl) (Nat.le_of_ble_eq_true rfl) (Nat.le_of_ble_eq_true rfl) (x_ri ?_)
  exact t_L_law_c460 l hκ18 H

def f_L_law_c502 (κ18 : Nat → Nat → Nat → Int32 → XM → Option (Int32 × XM)) (v0 : Nat) (v1 : Nat) (v2 : Nat) (v3 : Int32) (s1 : Int32) (s0 : Int32) (M : XM) : Option (Int32 × XM) :=
  if s1 = s0 then (f_L_law_1519 κ18 v0 v1 v2 v3 M) else (some ((0 : Int32), M))
set_option maxRecDepth 20000 in
set_option maxHeartbeats 4000000 in
theorem t_L_law_c502 (l : Launch) {κ18 : Nat → Nat → Nat → Int32 → XM → Option (Int32 × XM)} {v0 : Nat} {v1 : Nat} {v2 : Nat} {v3 : Int32} {s1 : Int32} {s0 : Int32} {M : XM} {q : Int32 × XM} (hκ18 : ∀ (v0 : Nat) (v1 : Nat) (v2 : Nat) (v3 : Int32) (M : XM), κ18 v0 v1 v2 v3 M = some q → AW l m_L_law 33 600000 7302250 (x_Ri q) 90 14893 18 [some (.ref v0), some (.ref v1), some (.ref v2), some (.int v3)] [] M) (H : f_L_law_c502 κ18 v0 v1 v2 v3 s1 s0 M = some q) : AW l m_L_law 33 600000 7302250 (x_Ri q) 90 14893 505 [some (.ref v0), some (.ref v1), some (.ref v2), some (.int v3)] [(.int s0), (.int s1)] M := by
  unfold f_L_law_c502 at H
  refine x_icmp_eq 505 1519 dL_law_505 (by decide) (fun c142 => ?_) (fun c142 => ?_)
  · replace H := x_ifp c142 H
    exact t_L_law_1519 l hκ18 H
  · replace H := x_ifn c142 H
    refine x_iconst 508 (0 : Int32) dL_law_508 (by decide) ?_
    cases H
    exact x_iret 509 dL_law_509 .boolean rfl rfl (Nat.le_of_ble_eq_true rfl) (Nat.le_of_ble_eq_true rfl) ⟨rfl, rfl⟩

def f_L_law_c488 (κ18 : Nat → Nat → Nat → Int32 → XM → Option (Int32 × XM)) (v0 : Nat) (v1 : Nat) (v2 : Nat) (v3 : Int32) (s0 : Int32) (M : XM) : Option (Int32 × XM) :=
  if x_at M v0 5 (v3 + (1 : Int32)) = true then (if v0 < 20 then (if x_at M v0 5 (v3 + (2 : Int32)) = true then (if x_tag M v2 = 9 + 10 then (x_bd (f_X9_says v2 (x_i M v0 (v3 + (1 : Int32)).toNatClampNeg) (x_i M v0 (v3 + (2 : Int32)).toNatClampNeg) M) (f_L_law_c502 κ18 v0 v1 v2 v3 s0)) else none) else none) else none) else none
set_option maxRecDepth 20000 in
set_option maxHeartbeats 4000000 in
theorem t_L_law_c488 (l : Launch) {κ18 : Nat → Nat → Nat → Int32 → XM → Option (Int32 × XM)} {v0 : Nat} {v1 : Nat} {v2 : Nat} {v3 : Int32} {s0 : Int32} {M : XM} {q : Int32 × XM} (hκ18 : ∀ (v0 : Nat) (v1 : Nat) (v2 : Nat) (v3 : Int32) (M : XM), κ18 v0 v1 v2 v3 M = some q → AW l m_L_law 33 600000 7302250 (x_Ri q) 90 14893 18 [some (.ref v0), some (.ref v1), some (.ref v2), some (.int v3)] [] M) (H : f_L_law_c488 κ18 v0 v1 v2 v3 s0 M = some q) : AW l m_L_law 33 600000 7302250 (x_Ri q) 90 14893 491 [some (.ref v0), some (.ref v1), some (.ref v2), some (.int v3)] [(.int s0)] M := by
  unfold f_L_law_c488 at H
  refine x_aload_n 491 2 dL_law_491 rfl rfl ?_
  refine x_aload_n 492 0 dL_law_492 rfl rfl ?_
  refine x_iload_n 493 3 dL_law_493 rfl rfl ?_
  refine x_iconst 494 (1 : Int32) dL_law_494 (by decide) ?_
  refine x_iadd 495 dL_law_495 ?_
  obtain ⟨h135, H⟩ := x_ckp H
  obtain ⟨h136, H⟩ := x_ckp H
  refine x_siald 496 dL_law_496 h135 h136 ?_
  refine x_aload_n 497 0 dL_law_497 rfl rfl ?_
  refine x_iload_n 498 3 dL_law_498 rfl rfl ?_
  refine x_iconst 499 (2 : Int32) dL_law_499 (by decide) ?_
  refine x_iadd 500 dL_law_500 ?_
  obtain ⟨h137, H⟩ := x_ckp H
  refine x_siald 501 dL_law_501 h137 h136 ?_
  obtain ⟨h138, H⟩ := x_ckp H
  obtain ⟨r140, M139, e141, H⟩ := x_bd_of H
  refine x_callV 502 48 9 [(.int (x_i M v0 (v3 + (1 : Int32)).toNatClampNeg)), (.int (x_i M v0 (v3 + (2 : Int32)).toNatClampNeg))] [(.int s0)] dL_law_502 (ct_X9_says l e141) lk_1193 lk_1194 lk_1195 (by decide) h138 lk_94 lk_1196 ⟨cn_X9_says, (by decide), by decide⟩ rfl (Nat.le_of_ble_eq_true rfl) (Nat.le_of_ble_eq_true rfl) (Nat.le_of_ble_eq_true rfl) (x_ri ?_)
  exact t_L_law_c502 l hκ18 H

def f_L_law_477 (κ18 : Nat → Nat → Nat → Int32 → XM → Option (Int32 × XM)) (v0 : Nat) (v1 : Nat) (v2 : Nat) (v3 : Int32) (M : XM) : Option (Int32 × XM) :=
  if x_at M v0 5 (v3 + (1 : Int32)) = true then (if v0 < 20 then (if x_at M v0 5 (v3 + (2 : Int32)) = true then (if x_tag M v1 = 8 + 10 then (x_bd (f_X8_says v1 (x_i M v0 (v3 + (1 : Int32)).toNatClampNeg) (x_i M v0 (v3 + (2 : Int32)).toNatClampNeg) M) (f_L_law_c488 κ18 v0 v1 v2 v3)) else none) else none) else none) else none
set_option maxRecDepth 20000 in
set_option maxHeartbeats 4000000 in
theorem t_L_law_477 (l : Launch) {κ18 : Nat → Nat → Nat → Int32 → XM → Option (Int32 × XM)} {v0 : Nat} {v1 : Nat} {v2 : Nat} {v3 : Int32} {M : XM} {q : Int32 × XM} (hκ18 : ∀ (v0 : Nat) (v1 : Nat) (v2 : Nat) (v3 : Int32) (M : XM), κ18 v0 v1 v2 v3 M = some q → AW l m_L_law 33 600000 7302250 (x_Ri q) 90 14893 18 [some (.ref v0), some (.ref v1), some (.ref v2), some (.int v3)] [] M) (H : f_L_law_477 κ18 v0 v1 v2 v3 M = some q) : AW l m_L_law 33 600000 7302250 (x_Ri q) 90 14893 477 [some (.ref v0), some (.ref v1), some (.ref v2), some (.int v3)] [] M := by
  unfold f_L_law_477 at H
  refine x_aload_n 477 1 dL_law_477 rfl rfl ?_
  refine x_aload_n 478 0 dL_law_478 rfl rfl ?_
  refine x_iload_n 479 3 dL_law_479 rfl rfl ?_
  refine x_iconst 480 (1 : Int32) dL_law_480 (by decide) ?_
  refine x_iadd 481 dL_law_481 ?_
  obtain ⟨h128, H⟩ := x_ckp H
  obtain ⟨h129, H⟩ := x_ckp H
  refine x_siald 482 dL_law_482 h128 h129 ?_
  refine x_aload_n 483 0 dL_law_483 rfl rfl ?_
  refine x_iload_n 484 3 dL_law_484 rfl rfl ?_
  refine x_iconst 485 (2 : Int32) dL_law_485 (by decide) ?_
  refine x_iadd 486 dL_law_486 ?_
  obtain ⟨h130, H⟩ := x_ckp H
  refine x_siald 487 dL_law_487 h130 h129 ?_
  obtain ⟨h131, H⟩ := x_ckp H
  obtain ⟨r133, M132, e134, H⟩ := x_bd_of H
  refine x_callV 488 45 8 [(.int (x_i M v0 (v3 + (1 : Int32)).toNatClampNeg)), (.int (x_i M v0 (v3 + (2 : Int32)).toNatClampNeg))] [] dL_law_488 (ct_X8_says l e134) lk_495 lk_496 lk_497 (by decide) h131 lk_85 lk_498 ⟨cn_X8_says, (by decide), by decide⟩ rfl (Nat.le_of_ble_eq_true rfl) (Nat.le_of_ble_eq_true rfl) (Nat.le_of_ble_eq_true rfl) (x_ri ?_)
  exact t_L_law_c488 l hκ18 H

def f_L_law_c535 (κ18 : Nat → Nat → Nat → Int32 → XM → Option (Int32 × XM)) (v0 : Nat) (v1 : Nat) (v2 : Nat) (v3 : Int32) (s1 : Int32) (s0 : Int32) (M : XM) : Option (Int32 × XM) :=
  if s1 = s0 then (f_L_law_1519 κ18 v0 v1 v2 v3 M) else (some ((0 : Int32), M))
set_option maxRecDepth 20000 in
set_option maxHeartbeats 4000000 in
theorem t_L_law_c535 (l : Launch) {κ18 : Nat → Nat → Nat → Int32 → XM → Option (Int32 × XM)} {v0 : Nat} {v1 : Nat} {v2 : Nat} {v3 : Int32} {s1 : Int32} {s0 : Int32} {M : XM} {q : Int32 × XM} (hκ18 : ∀ (v0 : Nat) (v1 : Nat) (v2 : Nat) (v3 : Int32) (M : XM), κ18 v0 v1 v2 v3 M = some q → AW l m_L_law 33 600000 7302250 (x_Ri q) 90 14893 18 [some (.ref v0), some (.ref v1), some (.ref v2), some (.int v3)] [] M) (H : f_L_law_c535 κ18 v0 v1 v2 v3 s1 s0 M = some q) : AW l m_L_law 33 600000 7302250 (x_Ri q) 90 14893 538 [some (.ref v0), some (.ref v1), some (.ref v2), some (.int v3)] [(.int s0), (.int s1)] M := by
  unfold f_L_law_c535 at H
  refine x_icmp_eq 538 1519 dL_law_538 (by decide) (fun c158 => ?_) (fun c158 => ?_)
  · replace H := x_ifp c158 H
    exact t_L_law_1519 l hκ18 H
  · replace H := x_ifn c158 H
    refine x_iconst 541 (0 : Int32) dL_law_541 (by decide) ?_
    cases H
    exact x_iret 542 dL_law_542 .boolean rfl rfl (Nat.le_of_ble_eq_true rfl) (Nat.le_of_ble_eq_true rfl) ⟨rfl, rfl⟩

def f_L_law_c521 (κ18 : Nat → Nat → Nat → Int32 → XM → Option (Int32 × XM)) (v0 : Nat) (v1 : Nat) (v2 : Nat) (v3 : Int32) (s0 : Int32) (M : XM) : Option (Int32 × XM) :=
  if x_at M v0 5 (v3 + (1 : Int32)) = true then (if v0 < 20 then (if x_at M v0 5 (v3 + (2 : Int32)) = true then (if x_tag M v2 = 9 + 10 then (x_bd (f_X9_counter v2 (x_i M v0 (v3 + (1 : Int32)).toNatClampNeg) (x_i M v0 (v3 + (2 : Int32)).toNatClampNeg) M) (f_L_law_c535 κ18 v0 v1 v2 v3 s0)) else none) else none) else none) else none
set_option maxRecDepth 20000 in
set_option maxHeartbeats 4000000 in
theorem t_L_law_c521 (l : Launch) {κ18 : Nat → Nat → Nat → Int32 → XM → Option (Int32 × XM)} {v0 : Nat} {v1 : Nat} {v2 : Nat} {v3 : Int32} {s0 : Int32} {M : XM} {q : Int32 × XM} (hκ18 : ∀ (v0 : Nat) (v1 : Nat) (v2 : Nat) (v3 : Int32) (M : XM), κ18 v0 v1 v2 v3 M = some q → AW l m_L_law 33 600000 7302250 (x_Ri q) 90 14893 18 [some (.ref v0), some (.ref v1), some (.ref v2), some (.int v3)] [] M) (H : f_L_law_c521 κ18 v0 v1 v2 v3 s0 M = some q) : AW l m_L_law 33 600000 7302250 (x_Ri q) 90 14893 524 [some (.ref v0), some (.ref v1), some (.ref v2), some (.int v3)] [(.int s0)] M := by
  unfold f_L_law_c521 at H
  refine x_aload_n 524 2 dL_law_524 rfl rfl ?_
  refine x_aload_n 525 0 dL_law_525 rfl rfl ?_
  refine x_iload_n 526 3 dL_law_526 rfl rfl ?_
  refine x_iconst 527 (1 : Int32) dL_law_527 (by decide) ?_
  refine x_iadd 528 dL_law_528 ?_
  obtain ⟨h151, H⟩ := x_ckp H
  obtain ⟨h152, H⟩ := x_ckp H
  refine x_siald 529 dL_law_529 h151 h152 ?_
  refine x_aload_n 530 0 dL_law_530 rfl rfl ?_
  refine x_iload_n 531 3 dL_law_531 rfl rfl ?_
  refine x_iconst 532 (2 : Int32) dL_law_532 (by decide) ?_
  refine x_iadd 533 dL_law_533 ?_
  obtain ⟨h153, H⟩ := x_ckp H
  refine x_siald 534 dL_law_534 h153 h152 ?_
  obtain ⟨h154, H⟩ := x_ckp H
  obtain ⟨r156, M155, e157, H⟩ := x_bd_of H
  refine x_callV 535 52 9 [(.int (x_i M v0 (v3 + (1 : Int32)).toNatClampNeg)), (.int (x_i M v0 (v3 + (2 : Int32)).toNatClampNeg))] [(.int s0)] dL_law_535 (ct_X9_counter l e157) lk_1197 lk_1198 lk_1199 (by decide) h154 lk_94 lk_1200 ⟨cn_X9_counter, (by decide), by decide⟩ rfl (Nat.le_of_ble_eq_true rfl) (Nat.le_of_ble_eq_true rfl) (Nat.le_of_ble_eq_true rfl) (x_ri ?_)
  exact t_L_law_c535 l hκ18 H

def f_L_law_510 (κ18 : Nat → Nat → Nat → Int32 → XM → Option (Int32 × XM)) (v0 : Nat) (v1 : Nat) (v2 : Nat) (v3 : Int32) (M : XM) : Option (Int32 × XM) :=
  if x_at M v0 5 (v3 + (1 : Int32)) = true then (if v0 < 20 then (if x_at M v0 5 (v3 + (2 : Int32)) = true then (if x_tag M v1 = 8 + 10 then (x_bd (f_X8_counter v1 (x_i M v0 (v3 + (1 : Int32)).toNatClampNeg) (x_i M v0 (v3 + (2 : Int32)).toNatClampNeg) M) (f_L_law_c521 κ18 v0 v1 v2 v3)) else none) else none) else none) else none
set_option maxRecDepth 20000 in
set_option maxHeartbeats 4000000 in
theorem t_L_law_510 (l : Launch) {κ18 : Nat → Nat → Nat → Int32 → XM → Option (Int32 × XM)} {v0 : Nat} {v1 : Nat} {v2 : Nat} {v3 : Int32} {M : XM} {q : Int32 × XM} (hκ18 : ∀ (v0 : Nat) (v1 : Nat) (v2 : Nat) (v3 : Int32) (M : XM), κ18 v0 v1 v2 v3 M = some q → AW l m_L_law 33 600000 7302250 (x_Ri q) 90 14893 18 [some (.ref v0), some (.ref v1), some (.ref v2), some (.int v3)] [] M) (H : f_L_law_510 κ18 v0 v1 v2 v3 M = some q) : AW l m_L_law 33 600000 7302250 (x_Ri q) 90 14893 510 [some (.ref v0), some (.ref v1), some (.ref v2), some (.int v3)] [] M := by
  unfold f_L_law_510 at H
  refine x_aload_n 510 1 dL_law_510 rfl rfl ?_
  refine x_aload_n 511 0 dL_law_511 rfl rfl ?_
  refine x_iload_n 512 3 dL_law_512 rfl rfl ?_
  refine x_iconst 513 (1 : Int32) dL_law_513 (by decide) ?_
  refine x_iadd 514 dL_law_514 ?_
  obtain ⟨h144, H⟩ := x_ckp H
  obtain ⟨h145, H⟩ := x_ckp H
  refine x_siald 515 dL_law_515 h144 h145 ?_
  refine x_aload_n 516 0 dL_law_516 rfl rfl ?_
  refine x_iload_n 517 3 dL_law_517 rfl rfl ?_
  refine x_iconst 518 (2 : Int32) dL_law_518 (by decide) ?_
  refine x_iadd 519 dL_law_519 ?_
  obtain ⟨h146, H⟩ := x_ckp H
  refine x_siald 520 dL_law_520 h146 h145 ?_
  obtain ⟨h147, H⟩ := x_ckp H
  obtain ⟨r149, M148, e150, H⟩ := x_bd_of H
  refine x_callV 521 49 8 [(.int (x_i M v0 (v3 + (1 : Int32)).toNatClampNeg)), (.int (x_i M v0 (v3 + (2 : Int32)).toNatClampNeg))] [] dL_law_521 (ct_X8_counter l e150) lk_517 lk_518 lk_519 (by decide) h147 lk_85 lk_520 ⟨cn_X8_counter, (by decide), by decide⟩ rfl (Nat.le_of_ble_eq_true rfl) (Nat.le_of_ble_eq_true rfl) (Nat.le_of_ble_eq_true rfl) (x_ri ?_)
  exact t_L_law_c521 l hκ18 H

def f_L_law_c568 (κ18 : Nat → Nat → Nat → Int32 → XM → Option (Int32 × XM)) (v0 : Nat) (v1 : Nat) (v2 : Nat) (v3 : Int32) (s1 : Int32) (s0 : Int32) (M : XM) : Option (Int32 × XM) :=
  if s1 = s0 then (f_L_law_1519 κ18 v0 v1 v2 v3 M) else (some ((0 : Int32), M))
set_option maxRecDepth 20000 in
set_option maxHeartbeats 4000000 in
theorem t_L_law_c568 (l : Launch) {κ18 : Nat → Nat → Nat → Int32 → XM → Option (Int32 × XM)} {v0 : Nat} {v1 : Nat} {v2 : Nat} {v3 : Int32} {s1 : Int32} {s0 : Int32} {M : XM} {q : Int32 × XM} (hκ18 : ∀ (v0 : Nat) (v1 : Nat) (v2 : Nat) (v3 : Int32) (M : XM), κ18 v0 v1 v2 v3 M = some q → AW l m_L_law 33 600000 7302250 (x_Ri q) 90 14893 18 [some (.ref v0), some (.ref v1), some (.ref v2), some (.int v3)] [] M) (H : f_L_law_c568 κ18 v0 v1 v2 v3 s1 s0 M = some q) : AW l m_L_law 33 600000 7302250 (x_Ri q) 90 14893 571 [some (.ref v0), some (.ref v1), some (.ref v2), some (.int v3)] [(.int s0), (.int s1)] M := by
  unfold f_L_law_c568 at H
  refine x_icmp_eq 571 1519 dL_law_571 (by decide) (fun c174 => ?_) (fun c174 => ?_)
  · replace H := x_ifp c174 H
    exact t_L_law_1519 l hκ18 H
  · replace H := x_ifn c174 H
    refine x_iconst 574 (0 : Int32) dL_law_574 (by decide) ?_
    cases H
    exact x_iret 575 dL_law_575 .boolean rfl rfl (Nat.le_of_ble_eq_true rfl) (Nat.le_of_ble_eq_true rfl) ⟨rfl, rfl⟩

def f_L_law_c554 (κ18 : Nat → Nat → Nat → Int32 → XM → Option (Int32 × XM)) (v0 : Nat) (v1 : Nat) (v2 : Nat) (v3 : Int32) (s0 : Int32) (M : XM) : Option (Int32 × XM) :=
  if x_at M v0 5 (v3 + (1 : Int32)) = true then (if v0 < 20 then (if x_at M v0 5 (v3 + (2 : Int32)) = true then (if x_tag M v2 = 9 + 10 then (x_bd (f_X9_counterOf v2 (x_i M v0 (v3 + (1 : Int32)).toNatClampNeg) (x_i M v0 (v3 + (2 : Int32)).toNatClampNeg) M) (f_L_law_c568 κ18 v0 v1 v2 v3 s0)) else none) else none) else none) else none
set_option maxRecDepth 20000 in
set_option maxHeartbeats 4000000 in
theorem t_L_law_c554 (l : Launch) {κ18 : Nat → Nat → Nat → Int32 → XM → Option (Int32 × XM)} {v0 : Nat} {v1 : Nat} {v2 : Nat} {v3 : Int32} {s0 : Int32} {M : XM} {q : Int32 × XM} (hκ18 : ∀ (v0 : Nat) (v1 : Nat) (v2 : Nat) (v3 : Int32) (M : XM), κ18 v0 v1 v2 v3 M = some q → AW l m_L_law 33 600000 7302250 (x_Ri q) 90 14893 18 [some (.ref v0), some (.ref v1), some (.ref v2), some (.int v3)] [] M) (H : f_L_law_c554 κ18 v0 v1 v2 v3 s0 M = some q) : AW l m_L_law 33 600000 7302250 (x_Ri q) 90 14893 557 [some (.ref v0), some (.ref v1), some (.ref v2), some (.int v3)] [(.int s0)] M := by
  unfold f_L_law_c554 at H
  refine x_aload_n 557 2 dL_law_557 rfl rfl ?_
  refine x_aload_n 558 0 dL_law_558 rfl rfl ?_
  refine x_iload_n 559 3 dL_law_559 rfl rfl ?_
  refine x_iconst 560 (1 : Int32) dL_law_560 (by decide) ?_
  refine x_iadd 561 dL_law_561 ?_
  obtain ⟨h167, H⟩ := x_ckp H
  obtain ⟨h168, H⟩ := x_ckp H
  refine x_siald 562 dL_law_562 h167 h168 ?_
  refine x_aload_n 563 0 dL_law_563 rfl rfl ?_
  refine x_iload_n 564 3 dL_law_564 rfl rfl ?_
  refine x_iconst 565 (2 : Int32) dL_law_565 (by decide) ?_
  refine x_iadd 566 dL_law_566 ?_
  obtain ⟨h169, H⟩ := x_ckp H
  refine x_siald 567 dL_law_567 h169 h168 ?_
  obtain ⟨h170, H⟩ := x_ckp H
  obtain ⟨r172, M171, e173, H⟩ := x_bd_of H
  refine x_callV 568 56 9 [(.int (x_i M v0 (v3 + (1 : Int32)).toNatClampNeg)), (.int (x_i M v0 (v3 + (2 : Int32)).toNatClampNeg))] [(.int s0)] dL_law_568 (ct_X9_counterOf l e173) lk_1205 lk_1206 lk_1207 (by decide) h170 lk_94 lk_1208 ⟨cn_X9_counterOf, (by decide), by decide⟩ rfl (Nat.le_of_ble_eq_true rfl) (Nat.le_of_ble_eq_true rfl) (Nat.le_of_ble_eq_true rfl) (x_ri ?_)
  exact t_L_law_c568 l hκ18 H

def f_L_law_543 (κ18 : Nat → Nat → Nat → Int32 → XM → Option (Int32 × XM)) (v0 : Nat) (v1 : Nat) (v2 : Nat) (v3 : Int32) (M : XM) : Option (Int32 × XM) :=
  if x_at M v0 5 (v3 + (1 : Int32)) = true then (if v0 < 20 then (if x_at M v0 5 (v3 + (2 : Int32)) = true then (if x_tag M v1 = 8 + 10 then (x_bd (f_X8_counterOf v1 (x_i M v0 (v3 + (1 : Int32)).toNatClampNeg) (x_i M v0 (v3 + (2 : Int32)).toNatClampNeg) M) (f_L_law_c554 κ18 v0 v1 v2 v3)) else none) else none) else none) else none
set_option maxRecDepth 20000 in
set_option maxHeartbeats 4000000 in
theorem t_L_law_543 (l : Launch) {κ18 : Nat → Nat → Nat → Int32 → XM → Option (Int32 × XM)} {v0 : Nat} {v1 : Nat} {v2 : Nat} {v3 : Int32} {M : XM} {q : Int32 × XM} (hκ18 : ∀ (v0 : Nat) (v1 : Nat) (v2 : Nat) (v3 : Int32) (M : XM), κ18 v0 v1 v2 v3 M = some q → AW l m_L_law 33 600000 7302250 (x_Ri q) 90 14893 18 [some (.ref v0), some (.ref v1), some (.ref v2), some (.int v3)] [] M) (H : f_L_law_543 κ18 v0 v1 v2 v3 M = some q) : AW l m_L_law 33 600000 7302250 (x_Ri q) 90 14893 543 [some (.ref v0), some (.ref v1), some (.ref v2), some (.int v3)] [] M := by
  unfold f_L_law_543 at H
  refine x_aload_n 543 1 dL_law_543 rfl rfl ?_
  refine x_aload_n 544 0 dL_law_544 rfl rfl ?_
  refine x_iload_n 545 3 dL_law_545 rfl rfl ?_
  refine x_iconst 546 (1 : Int32) dL_law_546 (by decide) ?_
  refine x_iadd 547 dL_law_547 ?_
  obtain ⟨h160, H⟩ := x_ckp H
  obtain ⟨h161, H⟩ := x_ckp H
  refine x_siald 548 dL_law_548 h160 h161 ?_
  refine x_aload_n 549 0 dL_law_549 rfl rfl ?_
  refine x_iload_n 550 3 dL_law_550 rfl rfl ?_
  refine x_iconst 551 (2 : Int32) dL_law_551 (by decide) ?_
  refine x_iadd 552 dL_law_552 ?_
  obtain ⟨h162, H⟩ := x_ckp H
  refine x_siald 553 dL_law_553 h162 h161 ?_
  obtain ⟨h163, H⟩ := x_ckp H
  obtain ⟨r165, M164, e166, H⟩ := x_bd_of H
  refine x_callV 554 53 8 [(.int (x_i M v0 (v3 + (1 : Int32)).toNatClampNeg)), (.int (x_i M v0 (v3 + (2 : Int32)).toNatClampNeg))] [] dL_law_554 (ct_X8_counterOf l e166) lk_537 lk_538 lk_539 (by decide) h163 lk_85 lk_540 ⟨cn_X8_counterOf, (by decide), by decide⟩ rfl (Nat.le_of_ble_eq_true rfl) (Nat.le_of_ble_eq_true rfl) (Nat.le_of_ble_eq_true rfl) (x_ri ?_)
  exact t_L_law_c554 l hκ18 H

def f_L_law_c601 (κ18 : Nat → Nat → Nat → Int32 → XM → Option (Int32 × XM)) (v0 : Nat) (v1 : Nat) (v2 : Nat) (v3 : Int32) (s1 : Int32) (s0 : Int32) (M : XM) : Option (Int32 × XM) :=
  if s1 = s0 then (f_L_law_1519 κ18 v0 v1 v2 v3 M) else (some ((0 : Int32), M))
set_option maxRecDepth 20000 in
set_option maxHeartbeats 4000000 in
theorem t_L_law_c601 (l : Launch) {κ18 : Nat → Nat → Nat → Int32 → XM → Option (Int32 × XM)} {v0 : Nat} {v1 : Nat} {v2 : Nat} {v3 : Int32} {s1 : Int32} {s0 : Int32} {M : XM} {q : Int32 × XM} (hκ18 : ∀ (v0 : Nat) (v1 : Nat) (v2 : Nat) (v3 : Int32) (M : XM), κ18 v0 v1 v2 v3 M = some q → AW l m_L_law 33 600000 7302250 (x_Ri q) 90 14893 18 [some (.ref v0), some (.ref v1), some (.ref v2), some (.int v3)] [] M) (H : f_L_law_c601 κ18 v0 v1 v2 v3 s1 s0 M = some q) : AW l m_L_law 33 600000 7302250 (x_Ri q) 90 14893 604 [some (.ref v0), some (.ref v1), some (.ref v2), some (.int v3)] [(.int s0), (.int s1)] M := by
  unfold f_L_law_c601 at H
  refine x_icmp_eq 604 1519 dL_law_604 (by decide) (fun c190 => ?_) (fun c190 => ?_)
  · replace H := x_ifp c190 H
    exact t_L_law_1519 l hκ18 H
  · replace H := x_ifn c190 H
    refine x_iconst 607 (0 : Int32) dL_law_607 (by decide) ?_
    cases H
    exact x_iret 608 dL_law_608 .boolean rfl rfl (Nat.le_of_ble_eq_true rfl) (Nat.le_of_ble_eq_true rfl) ⟨rfl, rfl⟩

def f_L_law_c587 (κ18 : Nat → Nat → Nat → Int32 → XM → Option (Int32 × XM)) (v0 : Nat) (v1 : Nat) (v2 : Nat) (v3 : Int32) (s0 : Int32) (M : XM) : Option (Int32 × XM) :=
  if x_at M v0 5 (v3 + (1 : Int32)) = true then (if v0 < 20 then (if x_at M v0 5 (v3 + (2 : Int32)) = true then (if x_tag M v2 = 9 + 10 then (x_bd (f_X9_ask v2 (x_i M v0 (v3 + (1 : Int32)).toNatClampNeg) (x_i M v0 (v3 + (2 : Int32)).toNatClampNeg) M) (f_L_law_c601 κ18 v0 v1 v2 v3 s0)) else none) else none) else none) else none
set_option maxRecDepth 20000 in
set_option maxHeartbeats 4000000 in
theorem t_L_law_c587 (l : Launch) {κ18 : Nat → Nat → Nat → Int32 → XM → Option (Int32 × XM)} {v0 : Nat} {v1 : Nat} {v2 : Nat} {v3 : Int32} {s0 : Int32} {M : XM} {q : Int32 × XM} (hκ18 : ∀ (v0 : Nat) (v1 : Nat) (v2 : Nat) (v3 : Int32) (M : XM), κ18 v0 v1 v2 v3 M = some q → AW l m_L_law 33 600000 7302250 (x_Ri q) 90 14893 18 [some (.ref v0), some (.ref v1), some (.ref v2), some (.int v3)] [] M) (H : f_L_law_c587 κ18 v0 v1 v2 v3 s0 M = some q) : AW l m_L_law 33 600000 7302250 (x_Ri q) 90 14893 590 [some (.ref v0), some (.ref v1), some (.ref v2), some (.int v3)] [(.int s0)] M := by
  unfold f_L_law_c587 at H
  refine x_aload_n 590 2 dL_law_590 rfl rfl ?_
  refine x_aload_n 591 0 dL_law_591 rfl rfl ?_
  refine x_iload_n 592 3 dL_law_592 rfl rfl ?_
  refine x_iconst 593 (1 : Int32) dL_law_593 (by decide) ?_
  refine x_iadd 594 dL_law_594 ?_
  obtain ⟨h183, H⟩ := x_ckp H
  obtain ⟨h184, H⟩ := x_ckp H
  refine x_siald 595 dL_law_595 h183 h184 ?_
  refine x_aload_n 596 0 dL_law_596 rfl rfl ?_
  refine x_iload_n 597 3 dL_law_597 rfl rfl ?_
  refine x_iconst 598 (2 : Int32) dL_law_598 (by decide) ?_
  refine x_iadd 599 dL_law_599 ?_
  obtain ⟨h185, H⟩ := x_ckp H
  refine x_siald 600 dL_law_600 h185 h184 ?_
  obtain ⟨h186, H⟩ := x_ckp H
  obtain ⟨r188, M187, e189, H⟩ := x_bd_of H
  refine x_callV 601 60 9 [(.int (x_i M v0 (v3 + (1 : Int32)).toNatClampNeg)), (.int (x_i M v0 (v3 + (2 : Int32)).toNatClampNeg))] [(.int s0)] dL_law_601 (ct_X9_ask l e189) lk_1209 lk_1210 lk_1211 (by decide) h186 lk_94 lk_1212 ⟨cn_X9_ask, (by decide), by decide⟩ rfl (Nat.le_of_ble_eq_true rfl) (Nat.le_of_ble_eq_true rfl) (Nat.le_of_ble_eq_true rfl) (x_ri ?_)
  exact t_L_law_c601 l hκ18 H

def f_L_law_576 (κ18 : Nat → Nat → Nat → Int32 → XM → Option (Int32 × XM)) (v0 : Nat) (v1 : Nat) (v2 : Nat) (v3 : Int32) (M : XM) : Option (Int32 × XM) :=
  if x_at M v0 5 (v3 + (1 : Int32)) = true then (if v0 < 20 then (if x_at M v0 5 (v3 + (2 : Int32)) = true then (if x_tag M v1 = 8 + 10 then (x_bd (f_X8_ask v1 (x_i M v0 (v3 + (1 : Int32)).toNatClampNeg) (x_i M v0 (v3 + (2 : Int32)).toNatClampNeg) M) (f_L_law_c587 κ18 v0 v1 v2 v3)) else none) else none) else none) else none
set_option maxRecDepth 20000 in
set_option maxHeartbeats 4000000 in
theorem t_L_law_576 (l : Launch) {κ18 : Nat → Nat → Nat → Int32 → XM → Option (Int32 × XM)} {v0 : Nat} {v1 : Nat} {v2 : Nat} {v3 : Int32} {M : XM} {q : Int32 × XM} (hκ18 : ∀ (v0 : Nat) (v1 : Nat) (v2 : Nat) (v3 : Int32) (M : XM), κ18 v0 v1 v2 v3 M = some q → AW l m_L_law 33 600000 7302250 (x_Ri q) 90 14893 18 [some (.ref v0), some (.ref v1), some (.ref v2), some (.int v3)] [] M) (H : f_L_law_576 κ18 v0 v1 v2 v3 M = some q) : AW l m_L_law 33 600000 7302250 (x_Ri q) 90 14893 576 [some (.ref v0), some (.ref v1), some (.ref v2), some (.int v3)] [] M := by
  unfold f_L_law_576 at H
  refine x_aload_n 576 1 dL_law_576 rfl rfl ?_
  refine x_aload_n 577 0 dL_law_577 rfl rfl ?_
  refine x_iload_n 578 3 dL_law_578 rfl rfl ?_
  refine x_iconst 579 (1 : Int32) dL_law_579 (by decide) ?_
  refine x_iadd 580 dL_law_580 ?_
  obtain ⟨h176, H⟩ := x_ckp H
  obtain ⟨h177, H⟩ := x_ckp H
  refine x_siald 581 dL_law_581 h176 h177 ?_
  refine x_aload_n 582 0 dL_law_582 rfl rfl ?_
  refine x_iload_n 583 3 dL_law_583 rfl rfl ?_
  refine x_iconst 584 (2 : Int32) dL_law_584 (by decide) ?_
  refine x_iadd 585 dL_law_585 ?_
  obtain ⟨h178, H⟩ := x_ckp H
  refine x_siald 586 dL_law_586 h178 h177 ?_
  obtain ⟨h179, H⟩ := x_ckp H
  obtain ⟨r181, M180, e182, H⟩ := x_bd_of H
  refine x_callV 587 57 8 [(.int (x_i M v0 (v3 + (1 : Int32)).toNatClampNeg)), (.int (x_i M v0 (v3 + (2 : Int32)).toNatClampNeg))] [] dL_law_587 (ct_X8_ask l e182) lk_541 lk_542 lk_543 (by decide) h179 lk_85 lk_544 ⟨cn_X8_ask, (by decide), by decide⟩ rfl (Nat.le_of_ble_eq_true rfl) (Nat.le_of_ble_eq_true rfl) (Nat.le_of_ble_eq_true rfl) (x_ri ?_)
  exact t_L_law_c587 l hκ18 H

def f_L_law_c634 (κ18 : Nat → Nat → Nat → Int32 → XM → Option (Int32 × XM)) (v0 : Nat) (v1 : Nat) (v2 : Nat) (v3 : Int32) (s1 : Int32) (s0 : Int32) (M : XM) : Option (Int32 × XM) :=
  if s1 = s0 then (f_L_law_1519 κ18 v0 v1 v2 v3 M) else (some ((0 : Int32), M))
set_option maxRecDepth 20000 in
set_option maxHeartbeats 4000000 in
theorem t_L_law_c634 (l : Launch) {κ18 : Nat → Nat → Nat → Int32 → XM → Option (Int32 × XM)} {v0 : Nat} {v1 : Nat} {v2 : Nat} {v3 : Int32} {s1 : Int32} {s0 : Int32} {M : XM} {q : Int32 × XM} (hκ18 : ∀ (v0 : Nat) (v1 : Nat) (v2 : Nat) (v3 : Int32) (M : XM), κ18 v0 v1 v2 v3 M = some q → AW l m_L_law 33 600000 7302250 (x_Ri q) 90 14893 18 [some (.ref v0), some (.ref v1), some (.ref v2), some (.int v3)] [] M) (H : f_L_law_c634 κ18 v0 v1 v2 v3 s1 s0 M = some q) : AW l m_L_law 33 600000 7302250 (x_Ri q) 90 14893 637 [some (.ref v0), some (.ref v1), some (.ref v2), some (.int v3)] [(.int s0), (.int s1)] M := by
  unfold f_L_law_c634 at H
  refine x_icmp_eq 637 1519 dL_law_637 (by decide) (fun c206 => ?_) (fun c206 => ?_)
  · replace H := x_ifp c206 H
    exact t_L_law_1519 l hκ18 H
  · replace H := x_ifn c206 H
    refine x_iconst 640 (0 : Int32) dL_law_640 (by decide) ?_
    cases H
    exact x_iret 641 dL_law_641 .boolean rfl rfl (Nat.le_of_ble_eq_true rfl) (Nat.le_of_ble_eq_true rfl) ⟨rfl, rfl⟩

def f_L_law_c620 (κ18 : Nat → Nat → Nat → Int32 → XM → Option (Int32 × XM)) (v0 : Nat) (v1 : Nat) (v2 : Nat) (v3 : Int32) (s0 : Int32) (M : XM) : Option (Int32 × XM) :=
  if x_at M v0 5 (v3 + (1 : Int32)) = true then (if v0 < 20 then (if x_at M v0 5 (v3 + (2 : Int32)) = true then (if x_tag M v2 = 9 + 10 then (x_bd (f_X9_put v2 (x_i M v0 (v3 + (1 : Int32)).toNatClampNeg) (x_i M v0 (v3 + (2 : Int32)).toNatClampNeg) M) (f_L_law_c634 κ18 v0 v1 v2 v3 s0)) else none) else none) else none) else none
set_option maxRecDepth 20000 in
set_option maxHeartbeats 4000000 in
theorem t_L_law_c620 (l : Launch) {κ18 : Nat → Nat → Nat → Int32 → XM → Option (Int32 × XM)} {v0 : Nat} {v1 : Nat} {v2 : Nat} {v3 : Int32} {s0 : Int32} {M : XM} {q : Int32 × XM} (hκ18 : ∀ (v0 : Nat) (v1 : Nat) (v2 : Nat) (v3 : Int32) (M : XM), κ18 v0 v1 v2 v3 M = some q → AW l m_L_law 33 600000 7302250 (x_Ri q) 90 14893 18 [some (.ref v0), some (.ref v1), some (.ref v2), some (.int v3)] [] M) (H : f_L_law_c620 κ18 v0 v1 v2 v3 s0 M = some q) : AW l m_L_law 33 600000 7302250 (x_Ri q) 90 14893 623 [some (.ref v0), some (.ref v1), some (.ref v2), some (.int v3)] [(.int s0)] M := by
  unfold f_L_law_c620 at H
  refine x_aload_n 623 2 dL_law_623 rfl rfl ?_
  refine x_aload_n 624 0 dL_law_624 rfl rfl ?_
  refine x_iload_n 625 3 dL_law_625 rfl rfl ?_
  refine x_iconst 626 (1 : Int32) dL_law_626 (by decide) ?_
  refine x_iadd 627 dL_law_627 ?_
  obtain ⟨h199, H⟩ := x_ckp H
  obtain ⟨h200, H⟩ := x_ckp H
  refine x_siald 628 dL_law_628 h199 h200 ?_
  refine x_aload_n 629 0 dL_law_629 rfl rfl ?_
  refine x_iload_n 630 3 dL_law_630 rfl rfl ?_
  refine x_iconst 631 (2 : Int32) dL_law_631 (by decide) ?_
  refine x_iadd 632 dL_law_632 ?_
  obtain ⟨h201, H⟩ := x_ckp H
  refine x_siald 633 dL_law_633 h201 h200 ?_
  obtain ⟨h202, H⟩ := x_ckp H
  obtain ⟨r204, M203, e205, H⟩ := x_bd_of H
  refine x_callV 634 64 9 [(.int (x_i M v0 (v3 + (1 : Int32)).toNatClampNeg)), (.int (x_i M v0 (v3 + (2 : Int32)).toNatClampNeg))] [(.int s0)] dL_law_634 (ct_X9_put l e205) lk_1221 lk_1222 lk_1223 (by decide) h202 lk_94 lk_1224 ⟨cn_X9_put, (by decide), by decide⟩ rfl (Nat.le_of_ble_eq_true rfl) (Nat.le_of_ble_eq_true rfl) (Nat.le_of_ble_eq_true rfl) (x_ri ?_)
  exact t_L_law_c634 l hκ18 H

def f_L_law_609 (κ18 : Nat → Nat → Nat → Int32 → XM → Option (Int32 × XM)) (v0 : Nat) (v1 : Nat) (v2 : Nat) (v3 : Int32) (M : XM) : Option (Int32 × XM) :=
  if x_at M v0 5 (v3 + (1 : Int32)) = true then (if v0 < 20 then (if x_at M v0 5 (v3 + (2 : Int32)) = true then (if x_tag M v1 = 8 + 10 then (x_bd (f_X8_put v1 (x_i M v0 (v3 + (1 : Int32)).toNatClampNeg) (x_i M v0 (v3 + (2 : Int32)).toNatClampNeg) M) (f_L_law_c620 κ18 v0 v1 v2 v3)) else none) else none) else none) else none
set_option maxRecDepth 20000 in
set_option maxHeartbeats 4000000 in
theorem t_L_law_609 (l : Launch) {κ18 : Nat → Nat → Nat → Int32 → XM → Option (Int32 × XM)} {v0 : Nat} {v1 : Nat} {v2 : Nat} {v3 : Int32} {M : XM} {q : Int32 × XM} (hκ18 : ∀ (v0 : Nat) (v1 : Nat) (v2 : Nat) (v3 : Int32) (M : XM), κ18 v0 v1 v2 v3 M = some q → AW l m_L_law 33 600000 7302250 (x_Ri q) 90 14893 18 [some (.ref v0), some (.ref v1), some (.ref v2), some (.int v3)] [] M) (H : f_L_law_609 κ18 v0 v1 v2 v3 M = some q) : AW l m_L_law 33 600000 7302250 (x_Ri q) 90 14893 609 [some (.ref v0), some (.ref v1), some (.ref v2), some (.int v3)] [] M := by
  unfold f_L_law_609 at H
  refine x_aload_n 609 1 dL_law_609 rfl rfl ?_
  refine x_aload_n 610 0 dL_law_610 rfl rfl ?_
  refine x_iload_n 611 3 dL_law_611 rfl rfl ?_
  refine x_iconst 612 (1 : Int32) dL_law_612 (by decide) ?_
  refine x_iadd 613 dL_law_613 ?_
  obtain ⟨h192, H⟩ := x_ckp H
  obtain ⟨h193, H⟩ := x_ckp H
  refine x_siald 614 dL_law_614 h192 h193 ?_
  refine x_aload_n 615 0 dL_law_615 rfl rfl ?_
  refine x_iload_n 616 3 dL_law_616 rfl rfl ?_
  refine x_iconst 617 (2 : Int32) dL_law_617 (by decide) ?_
  refine x_iadd 618 dL_law_618 ?_
  obtain ⟨h194, H⟩ := x_ckp H
  refine x_siald 619 dL_law_619 h194 h193 ?_
  obtain ⟨h195, H⟩ := x_ckp H
  obtain ⟨r197, M196, e198, H⟩ := x_bd_of H
  refine x_callV 620 61 8 [(.int (x_i M v0 (v3 + (1 : Int32)).toNatClampNeg)), (.int (x_i M v0 (v3 + (2 : Int32)).toNatClampNeg))] [] dL_law_620 (ct_X8_put l e198) lk_563 lk_564 lk_565 (by decide) h195 lk_85 lk_566 ⟨cn_X8_put, (by decide), by decide⟩ rfl (Nat.le_of_ble_eq_true rfl) (Nat.le_of_ble_eq_true rfl) (Nat.le_of_ble_eq_true rfl) (x_ri ?_)
  exact t_L_law_c620 l hκ18 H

def f_L_law_c657 (κ18 : Nat → Nat → Nat → Int32 → XM → Option (Int32 × XM)) (v0 : Nat) (v1 : Nat) (v2 : Nat) (v3 : Int32) (s1 : Int32) (s0 : Int32) (M : XM) : Option (Int32 × XM) :=
  if s1 = s0 then (f_L_law_1519 κ18 v0 v1 v2 v3 M) else (some ((0 : Int32), M))
set_option maxRecDepth 20000 in
set_option maxHeartbeats 4000000 in
theorem t_L_law_c657 (l : Launch) {κ18 : Nat → Nat → Nat → Int32 → XM → Option (Int32 × XM)} {v0 : Nat} {v1 : Nat} {v2 : Nat} {v3 : Int32} {s1 : Int32} {s0 : Int32} {M : XM} {q : Int32 × XM} (hκ18 : ∀ (v0 : Nat) (v1 : Nat) (v2 : Nat) (v3 : Int32) (M : XM), κ18 v0 v1 v2 v3 M = some q → AW l m_L_law 33 600000 7302250 (x_Ri q) 90 14893 18 [some (.ref v0), some (.ref v1), some (.ref v2), some (.int v3)] [] M) (H : f_L_law_c657 κ18 v0 v1 v2 v3 s1 s0 M = some q) : AW l m_L_law 33 600000 7302250 (x_Ri q) 90 14893 660 [some (.ref v0), some (.ref v1), some (.ref v2), some (.int v3)] [(.int s0), (.int s1)] M := by
  unfold f_L_law_c657 at H
  refine x_icmp_eq 660 1519 dL_law_660 (by decide) (fun c220 => ?_) (fun c220 => ?_)
  · replace H := x_ifp c220 H
    exact t_L_law_1519 l hκ18 H
  · replace H := x_ifn c220 H
    refine x_iconst 663 (0 : Int32) dL_law_663 (by decide) ?_
    cases H
    exact x_iret 664 dL_law_664 .boolean rfl rfl (Nat.le_of_ble_eq_true rfl) (Nat.le_of_ble_eq_true rfl) ⟨rfl, rfl⟩

def f_L_law_c648 (κ18 : Nat → Nat → Nat → Int32 → XM → Option (Int32 × XM)) (v0 : Nat) (v1 : Nat) (v2 : Nat) (v3 : Int32) (s0 : Int32) (M : XM) : Option (Int32 × XM) :=
  if x_at M v0 5 (v3 + (1 : Int32)) = true then (if v0 < 20 then (if x_tag M v2 = 9 + 10 then (x_bd (f_X9_room v2 (x_i M v0 (v3 + (1 : Int32)).toNatClampNeg) M) (f_L_law_c657 κ18 v0 v1 v2 v3 s0)) else none) else none) else none
set_option maxRecDepth 20000 in
set_option maxHeartbeats 4000000 in
theorem t_L_law_c648 (l : Launch) {κ18 : Nat → Nat → Nat → Int32 → XM → Option (Int32 × XM)} {v0 : Nat} {v1 : Nat} {v2 : Nat} {v3 : Int32} {s0 : Int32} {M : XM} {q : Int32 × XM} (hκ18 : ∀ (v0 : Nat) (v1 : Nat) (v2 : Nat) (v3 : Int32) (M : XM), κ18 v0 v1 v2 v3 M = some q → AW l m_L_law 33 600000 7302250 (x_Ri q) 90 14893 18 [some (.ref v0), some (.ref v1), some (.ref v2), some (.int v3)] [] M) (H : f_L_law_c648 κ18 v0 v1 v2 v3 s0 M = some q) : AW l m_L_law 33 600000 7302250 (x_Ri q) 90 14893 651 [some (.ref v0), some (.ref v1), some (.ref v2), some (.int v3)] [(.int s0)] M := by
  unfold f_L_law_c648 at H
  refine x_aload_n 651 2 dL_law_651 rfl rfl ?_
  refine x_aload_n 652 0 dL_law_652 rfl rfl ?_
  refine x_iload_n 653 3 dL_law_653 rfl rfl ?_
  refine x_iconst 654 (1 : Int32) dL_law_654 (by decide) ?_
  refine x_iadd 655 dL_law_655 ?_
  obtain ⟨h214, H⟩ := x_ckp H
  obtain ⟨h215, H⟩ := x_ckp H
  refine x_siald 656 dL_law_656 h214 h215 ?_
  obtain ⟨h216, H⟩ := x_ckp H
  obtain ⟨r218, M217, e219, H⟩ := x_bd_of H
  refine x_callV 657 68 9 [(.int (x_i M v0 (v3 + (1 : Int32)).toNatClampNeg))] [(.int s0)] dL_law_657 (ct_X9_room l e219) lk_1225 lk_1226 lk_1227 (by decide) h216 lk_94 lk_1228 ⟨cn_X9_room, (by decide), by decide⟩ rfl (Nat.le_of_ble_eq_true rfl) (Nat.le_of_ble_eq_true rfl) (Nat.le_of_ble_eq_true rfl) (x_ri ?_)
  exact t_L_law_c657 l hκ18 H

def f_L_law_642 (κ18 : Nat → Nat → Nat → Int32 → XM → Option (Int32 × XM)) (v0 : Nat) (v1 : Nat) (v2 : Nat) (v3 : Int32) (M : XM) : Option (Int32 × XM) :=
  if x_at M v0 5 (v3 + (1 : Int32)) = true then (if v0 < 20 then (if x_tag M v1 = 8 + 10 then (x_bd (f_X8_room v1 (x_i M v0 (v3 + (1 : Int32)).toNatClampNeg) M) (f_L_law_c648 κ18 v0 v1 v2 v3)) else none) else none) else none
set_option maxRecDepth 20000 in
set_option maxHeartbeats 4000000 in
theorem t_L_law_642 (l : Launch) {κ18 : Nat → Nat → Nat → Int32 → XM → Option (Int32 × XM)} {v0 : Nat} {v1 : Nat} {v2 : Nat} {v3 : Int32} {M : XM} {q : Int32 × XM} (hκ18 : ∀ (v0 : Nat) (v1 : Nat) (v2 : Nat) (v3 : Int32) (M : XM), κ18 v0 v1 v2 v3 M = some q → AW l m_L_law 33 600000 7302250 (x_Ri q) 90 14893 18 [some (.ref v0), some (.ref v1), some (.ref v2), some (.int v3)] [] M) (H : f_L_law_642 κ18 v0 v1 v2 v3 M = some q) : AW l m_L_law 33 600000 7302250 (x_Ri q) 90 14893 642 [some (.ref v0), some (.ref v1), some (.ref v2), some (.int v3)] [] M := by
  unfold f_L_law_642 at H
  refine x_aload_n 642 1 dL_law_642 rfl rfl ?_
  refine x_aload_n 643 0 dL_law_643 rfl rfl ?_
  refine x_iload_n 644 3 dL_law_644 rfl rfl ?_
  refine x_iconst 645 (1 : Int32) dL_law_645 (by decide) ?_
  refine x_iadd 646 dL_law_646 ?_
  obtain ⟨h208, H⟩ := x_ckp H
  obtain ⟨h209, H⟩ := x_ckp H
  refine x_siald 647 dL_law_647 h208 h209 ?_
  obtain ⟨h210, H⟩ := x_ckp H
  obtain ⟨r212, M211, e213, H⟩ := x_bd_of H
  refine x_callV 648 65 8 [(.int (x_i M v0 (v3 + (1 : Int32)).toNatClampNeg))] [] dL_law_648 (ct_X8_room l e213) lk_567 lk_568 lk_569 (by decide) h210 lk_85 lk_570 ⟨cn_X8_room, (by decide), by decide⟩ rfl (Nat.le_of_ble_eq_true rfl) (Nat.le_of_ble_eq_true rfl) (Nat.le_of_ble_eq_true rfl) (x_ri ?_)
  exact t_L_law_c648 l hκ18 H

def f_L_law_c670 (κ18 : Nat → Nat → Nat → Int32 → XM → Option (Int32 × XM)) (v0 : Nat) (v1 : Nat) (v2 : Nat) (v3 : Int32) (s1 : Int32) (s0 : Int32) (M : XM) : Option (Int32 × XM) :=
  if s1 = s0 then (f_L_law_1519 κ18 v0 v1 v2 v3 M) else (some ((0 : Int32), M))
set_option maxRecDepth 20000 in
set_option maxHeartbeats 4000000 in
theorem t_L_law_c670 (l : Launch) {κ18 : Nat → Nat → Nat → Int32 → XM → Option (Int32 × XM)} {v0 : Nat} {v1 : Nat} {v2 : Nat} {v3 : Int32} {s1 : Int32} {s0 : Int32} {M : XM} {q : Int32 × XM} (hκ18 : ∀ (v0 : Nat) (v1 : Nat) (v2 : Nat) (v3 : Int32) (M : XM), κ18 v0 v1 v2 v3 M = some q → AW l m_L_law 33 600000 7302250 (x_Ri q) 90 14893 18 [some (.ref v0), some (.ref v1), some (.ref v2), some (.int v3)] [] M) (H : f_L_law_c670 κ18 v0 v1 v2 v3 s1 s0 M = some q) : AW l m_L_law 33 600000 7302250 (x_Ri q) 90 14893 673 [some (.ref v0), some (.ref v1), some (.ref v2), some (.int v3)] [(.int s0), (.int s1)] M := by
  unfold f_L_law_c670 at H
  refine x_icmp_eq 673 1519 dL_law_673 (by decide) (fun c230 => ?_) (fun c230 => ?_)
  · replace H := x_ifp c230 H
    exact t_L_law_1519 l hκ18 H
  · replace H := x_ifn c230 H
    refine x_iconst 676 (0 : Int32) dL_law_676 (by decide) ?_
    cases H
    exact x_iret 677 dL_law_677 .boolean rfl rfl (Nat.le_of_ble_eq_true rfl) (Nat.le_of_ble_eq_true rfl) ⟨rfl, rfl⟩

def f_L_law_c666 (κ18 : Nat → Nat → Nat → Int32 → XM → Option (Int32 × XM)) (v0 : Nat) (v1 : Nat) (v2 : Nat) (v3 : Int32) (s0 : Int32) (M : XM) : Option (Int32 × XM) :=
  if x_tag M v2 = 9 + 10 then (x_bd (f_X9_fault v2 M) (f_L_law_c670 κ18 v0 v1 v2 v3 s0)) else none
set_option maxRecDepth 20000 in
set_option maxHeartbeats 4000000 in
theorem t_L_law_c666 (l : Launch) {κ18 : Nat → Nat → Nat → Int32 → XM → Option (Int32 × XM)} {v0 : Nat} {v1 : Nat} {v2 : Nat} {v3 : Int32} {s0 : Int32} {M : XM} {q : Int32 × XM} (hκ18 : ∀ (v0 : Nat) (v1 : Nat) (v2 : Nat) (v3 : Int32) (M : XM), κ18 v0 v1 v2 v3 M = some q → AW l m_L_law 33 600000 7302250 (x_Ri q) 90 14893 18 [some (.ref v0), some (.ref v1), some (.ref v2), some (.int v3)] [] M) (H : f_L_law_c666 κ18 v0 v1 v2 v3 s0 M = some q) : AW l m_L_law 33 600000 7302250 (x_Ri q) 90 14893 669 [some (.ref v0), some (.ref v1), some (.ref v2), some (.int v3)] [(.int s0)] M := by
  unfold f_L_law_c666 at H
  refine x_aload_n 669 2 dL_law_669 rfl rfl ?_
  obtain ⟨h226, H⟩ := x_ckp H
  obtain ⟨r228, M227, e229, H⟩ := x_bd_of H
  refine x_callV 670 73 9 [] [(.int s0)] dL_law_670 (ct_X9_fault l e229) lk_1278 lk_1279 lk_1280 (by decide) h226 lk_94 lk_1281 ⟨cn_X9_fault, (by decide), by decide⟩ rfl (Nat.le_of_ble_eq_true rfl) (Nat.le_of_ble_eq_true rfl) (Nat.le_of_ble_eq_true rfl) (x_ri ?_)
  exact t_L_law_c670 l hκ18 H

def f_L_law_665 (κ18 : Nat → Nat → Nat → Int32 → XM → Option (Int32 × XM)) (v0 : Nat) (v1 : Nat) (v2 : Nat) (v3 : Int32) (M : XM) : Option (Int32 × XM) :=
  if x_tag M v1 = 8 + 10 then (x_bd (f_X8_fault v1 M) (f_L_law_c666 κ18 v0 v1 v2 v3)) else none
set_option maxRecDepth 20000 in
set_option maxHeartbeats 4000000 in
theorem t_L_law_665 (l : Launch) {κ18 : Nat → Nat → Nat → Int32 → XM → Option (Int32 × XM)} {v0 : Nat} {v1 : Nat} {v2 : Nat} {v3 : Int32} {M : XM} {q : Int32 × XM} (hκ18 : ∀ (v0 : Nat) (v1 : Nat) (v2 : Nat) (v3 : Int32) (M : XM), κ18 v0 v1 v2 v3 M = some q → AW l m_L_law 33 600000 7302250 (x_Ri q) 90 14893 18 [some (.ref v0), some (.ref v1), some (.ref v2), some (.int v3)] [] M) (H : f_L_law_665 κ18 v0 v1 v2 v3 M = some q) : AW l m_L_law 33 600000 7302250 (x_Ri q) 90 14893 665 [some (.ref v0), some (.ref v1), some (.ref v2), some (.int v3)] [] M := by
  unfold f_L_law_665 at H
  refine x_aload_n 665 1 dL_law_665 rfl rfl ?_
  obtain ⟨h222, H⟩ := x_ckp H
  obtain ⟨r224, M223, e225, H⟩ := x_bd_of H
  refine x_callV 666 69 8 [] [] dL_law_666 (ct_X8_fault l e225) lk_724 lk_725 lk_726 (by decide) h222 lk_85 lk_727 ⟨cn_X8_fault, (by decide), by decide⟩ rfl (Nat.le_of_ble_eq_true rfl) (Nat.le_of_ble_eq_true rfl) (Nat.le_of_ble_eq_true rfl) (x_ri ?_)
  exact t_L_law_c666 l hκ18 H

def f_L_law_c693 (κ18 : Nat → Nat → Nat → Int32 → XM → Option (Int32 × XM)) (v0 : Nat) (v1 : Nat) (v2 : Nat) (v3 : Int32) (s1 : Int32) (s0 : Int32) (M : XM) : Option (Int32 × XM) :=
  if s1 = s0 then (f_L_law_1519 κ18 v0 v1 v2 v3 M) else (some ((0 : Int32), M))
set_option maxRecDepth 20000 in
set_option maxHeartbeats 4000000 in
theorem t_L_law_c693 (l : Launch) {κ18 : Nat → Nat → Nat → Int32 → XM → Option (Int32 × XM)} {v0 : Nat} {v1 : Nat} {v2 : Nat} {v3 : Int32} {s1 : Int32} {s0 : Int32} {M : XM} {q : Int32 × XM} (hκ18 : ∀ (v0 : Nat) (v1 : Nat) (v2 : Nat) (v3 : Int32) (M : XM), κ18 v0 v1 v2 v3 M = some q → AW l m_L_law 33 600000 7302250 (x_Ri q) 90 14893 18 [some (.ref v0), some (.ref v1), some (.ref v2), some (.int v3)] [] M) (H : f_L_law_c693 κ18 v0 v1 v2 v3 s1 s0 M = some q) : AW l m_L_law 33 600000 7302250 (x_Ri q) 90 14893 696 [some (.ref v0), some (.ref v1), some (.ref v2), some (.int v3)] [(.int s0), (.int s1)] M := by
  unfold f_L_law_c693 at H
  refine x_icmp_eq 696 1519 dL_law_696 (by decide) (fun c244 => ?_) (fun c244 => ?_)
  · replace H := x_ifp c244 H
    exact t_L_law_1519 l hκ18 H
  · replace H := x_ifn c244 H
    refine x_iconst 699 (0 : Int32) dL_law_699 (by decide) ?_
    cases H
    exact x_iret 700 dL_law_700 .boolean rfl rfl (Nat.le_of_ble_eq_true rfl) (Nat.le_of_ble_eq_true rfl) ⟨rfl, rfl⟩

def f_L_law_c684 (κ18 : Nat → Nat → Nat → Int32 → XM → Option (Int32 × XM)) (v0 : Nat) (v1 : Nat) (v2 : Nat) (v3 : Int32) (s0 : Int32) (M : XM) : Option (Int32 × XM) :=
  if x_at M v0 5 (v3 + (1 : Int32)) = true then (if v0 < 20 then (if x_tag M v2 = 9 + 10 then (x_bd (f_X9_back v2 (x_i M v0 (v3 + (1 : Int32)).toNatClampNeg) M) (f_L_law_c693 κ18 v0 v1 v2 v3 s0)) else none) else none) else none
set_option maxRecDepth 20000 in
set_option maxHeartbeats 4000000 in
theorem t_L_law_c684 (l : Launch) {κ18 : Nat → Nat → Nat → Int32 → XM → Option (Int32 × XM)} {v0 : Nat} {v1 : Nat} {v2 : Nat} {v3 : Int32} {s0 : Int32} {M : XM} {q : Int32 × XM} (hκ18 : ∀ (v0 : Nat) (v1 : Nat) (v2 : Nat) (v3 : Int32) (M : XM), κ18 v0 v1 v2 v3 M = some q → AW l m_L_law 33 600000 7302250 (x_Ri q) 90 14893 18 [some (.ref v0), some (.ref v1), some (.ref v2), some (.int v3)] [] M) (H : f_L_law_c684 κ18 v0 v1 v2 v3 s0 M = some q) : AW l m_L_law 33 600000 7302250 (x_Ri q) 90 14893 687 [some (.ref v0), some (.ref v1), some (.ref v2), some (.int v3)] [(.int s0)] M := by
  unfold f_L_law_c684 at H
  refine x_aload_n 687 2 dL_law_687 rfl rfl ?_
  refine x_aload_n 688 0 dL_law_688 rfl rfl ?_
  refine x_iload_n 689 3 dL_law_689 rfl rfl ?_
  refine x_iconst 690 (1 : Int32) dL_law_690 (by decide) ?_
  refine x_iadd 691 dL_law_691 ?_
  obtain ⟨h238, H⟩ := x_ckp H
  obtain ⟨h239, H⟩ := x_ckp H
  refine x_siald 692 dL_law_692 h238 h239 ?_
  obtain ⟨h240, H⟩ := x_ckp H
  obtain ⟨r242, M241, e243, H⟩ := x_bd_of H
  refine x_callV 693 77 9 [(.int (x_i M v0 (v3 + (1 : Int32)).toNatClampNeg))] [(.int s0)] dL_law_693 (ct_X9_back l e243) lk_1282 lk_1283 lk_1284 (by decide) h240 lk_94 lk_1285 ⟨cn_X9_back, (by decide), by decide⟩ rfl (Nat.le_of_ble_eq_true rfl) (Nat.le_of_ble_eq_true rfl) (Nat.le_of_ble_eq_true rfl) (x_ri ?_)
  exact t_L_law_c693 l hκ18 H

def f_L_law_678 (κ18 : Nat → Nat → Nat → Int32 → XM → Option (Int32 × XM)) (v0 : Nat) (v1 : Nat) (v2 : Nat) (v3 : Int32) (M : XM) : Option (Int32 × XM) :=
  if x_at M v0 5 (v3 + (1 : Int32)) = true then (if v0 < 20 then (if x_tag M v1 = 8 + 10 then (x_bd (f_X8_back v1 (x_i M v0 (v3 + (1 : Int32)).toNatClampNeg) M) (f_L_law_c684 κ18 v0 v1 v2 v3)) else none) else none) else none
set_option maxRecDepth 20000 in
set_option maxHeartbeats 4000000 in
theorem t_L_law_678 (l : Launch) {κ18 : Nat → Nat → Nat → Int32 → XM → Option (Int32 × XM)} {v0 : Nat} {v1 : Nat} {v2 : Nat} {v3 : Int32} {M : XM} {q : Int32 × XM} (hκ18 : ∀ (v0 : Nat) (v1 : Nat) (v2 : Nat) (v3 : Int32) (M : XM), κ18 v0 v1 v2 v3 M = some q → AW l m_L_law 33 600000 7302250 (x_Ri q) 90 14893 18 [some (.ref v0), some (.ref v1), some (.ref v2), some (.int v3)] [] M) (H : f_L_law_678 κ18 v0 v1 v2 v3 M = some q) : AW l m_L_law 33 600000 7302250 (x_Ri q) 90 14893 678 [some (.ref v0), some (.ref v1), some (.ref v2), some (.int v3)] [] M := by
  unfold f_L_law_678 at H
  refine x_aload_n 678 1 dL_law_678 rfl rfl ?_
  refine x_aload_n 679 0 dL_law_679 rfl rfl ?_
  refine x_iload_n 680 3 dL_law_680 rfl rfl ?_
  refine x_iconst 681 (1 : Int32) dL_law_681 (by decide) ?_
  refine x_iadd 682 dL_law_682 ?_
  obtain ⟨h232, H⟩ := x_ckp H
  obtain ⟨h233, H⟩ := x_ckp H
  refine x_siald 683 dL_law_683 h232 h233 ?_
  obtain ⟨h234, H⟩ := x_ckp H
  obtain ⟨r236, M235, e237, H⟩ := x_bd_of H
  refine x_callV 684 74 8 [(.int (x_i M v0 (v3 + (1 : Int32)).toNatClampNeg))] [] dL_law_684 (ct_X8_back l e237) lk_728 lk_729 lk_730 (by decide) h234 lk_85 lk_731 ⟨cn_X8_back, (by decide), by decide⟩ rfl (Nat.le_of_ble_eq_true rfl) (Nat.le_of_ble_eq_true rfl) (Nat.le_of_ble_eq_true rfl) (x_ri ?_)
  exact t_L_law_c684 l hκ18 H

def f_L_law_c756 (κ18 : Nat → Nat → Nat → Int32 → XM → Option (Int32 × XM)) (v0 : Nat) (v1 : Nat) (v2 : Nat) (v3 : Int32) (s1 : Int32) (s0 : Int32) (M : XM) : Option (Int32 × XM) :=
  if s1 = s0 then (f_L_law_1519 κ18 v0 v1 v2 v3 M) else (some ((0 : Int32), M))
set_option maxRecDepth 20000 in
set_option maxHeartbeats 4000000 in
theorem t_L_law_c756 (l : Launch) {κ18 : Nat → Nat → Nat → Int32 → XM → Option (Int32 × XM)} {v0 : Nat} {v1 : Nat} {v2 : Nat} {v3 : Int32} {s1 : Int32} {s0 : Int32} {M : XM} {q : Int32 × XM} (hκ18 : ∀ (v0 : Nat) (v1 : Nat) (v2 : Nat) (v3 : Int32) (M : XM), κ18 v0 v1 v2 v3 M = some q → AW l m_L_law 33 600000 7302250 (x_Ri q) 90 14893 18 [some (.ref v0), some (.ref v1), some (.ref v2), some (.int v3)] [] M) (H : f_L_law_c756 κ18 v0 v1 v2 v3 s1 s0 M = some q) : AW l m_L_law 33 600000 7302250 (x_Ri q) 90 14893 759 [some (.ref v0), some (.ref v1), some (.ref v2), some (.int v3)] [(.int s0), (.int s1)] M := by
  unfold f_L_law_c756 at H
  refine x_icmp_eq 759 1519 dL_law_759 (by decide) (fun c266 => ?_) (fun c266 => ?_)
  · replace H := x_ifp c266 H
    exact t_L_law_1519 l hκ18 H
  · replace H := x_ifn c266 H
    refine x_iconst 762 (0 : Int32) dL_law_762 (by decide) ?_
    cases H
    exact x_iret 763 dL_law_763 .boolean rfl rfl (Nat.le_of_ble_eq_true rfl) (Nat.le_of_ble_eq_true rfl) ⟨rfl, rfl⟩

def f_L_law_c727 (κ18 : Nat → Nat → Nat → Int32 → XM → Option (Int32 × XM)) (v0 : Nat) (v1 : Nat) (v2 : Nat) (v3 : Int32) (s0 : Int32) (M : XM) : Option (Int32 × XM) :=
  if x_at M v0 5 (v3 + (1 : Int32)) = true then (if v0 < 20 then (if x_at M v0 5 (v3 + (2 : Int32)) = true then (if x_at M v0 5 (v3 + (3 : Int32)) = true then (if x_at M v0 5 (v3 + (4 : Int32)) = true then (if x_at M v0 5 (v3 + (5 : Int32)) = true then (if x_tag M v2 = 9 + 10 then (x_bd (f_X9_run v2 (x_i M v0 (v3 + (1 : Int32)).toNatClampNeg) (x_i M v0 (v3 + (2 : Int32)).toNatClampNeg) (x_i M v0 (v3 + (3 : Int32)).toNatClampNeg) (x_i M v0 (v3 + (4 : Int32)).toNatClampNeg) (x_i M v0 (v3 + (5 : Int32)).toNatClampNeg) M) (f_L_law_c756 κ18 v0 v1 v2 v3 s0)) else none) else none) else none) else none) else none) else none) else none
set_option maxRecDepth 20000 in
set_option maxHeartbeats 4000000 in
theorem t_L_law_c727 (l : Launch) {κ18 : Nat → Nat → Nat → Int32 → XM → Option (Int32 × XM)} {v0 : Nat} {v1 : Nat} {v2 : Nat} {v3 : Int32} {s0 : Int32} {M : XM} {q : Int32 × XM} (hκ18 : ∀ (v0 : Nat) (v1 : Nat) (v2 : Nat) (v3 : Int32) (M : XM), κ18 v0 v1 v2 v3 M = some q → AW l m_L_law 33 600000 7302250 (x_Ri q) 90 14893 18 [some (.ref v0), some (.ref v1), some (.ref v2), some (.int v3)] [] M) (H : f_L_law_c727 κ18 v0 v1 v2 v3 s0 M = some q) : AW l m_L_law 33 600000 7302250 (x_Ri q) 90 14893 730 [some (.ref v0), some (.ref v1), some (.ref v2), some (.int v3)] [(.int s0)] M := by
  unfold f_L_law_c727 at H
  refine x_aload_n 730 2 dL_law_730 rfl rfl ?_
  refine x_aload_n 731 0 dL_law_731 rfl rfl ?_
  refine x_iload_n 732 3 dL_law_732 rfl rfl ?_
  refine x_iconst 733 (1 : Int32) dL_law_733 (by decide) ?_
  refine x_iadd 734 dL_law_734 ?_
  obtain ⟨h256, H⟩ := x_ckp H
  obtain ⟨h257, H⟩ := x_ckp H
  refine x_siald 735 dL_law_735 h256 h257 ?_
  refine x_aload_n 736 0 dL_law_736 rfl rfl ?_
  refine x_iload_n 737 3 dL_law_737 rfl rfl ?_
  refine x_iconst 738 (2 : Int32) dL_law_738 (by decide) ?_
  refine x_iadd 739 dL_law_739 ?_
  obtain ⟨h258, H⟩ := x_ckp H
  refine x_siald 740 dL_law_740 h258 h257 ?_
  refine x_aload_n 741 0 dL_law_741 rfl rfl ?_
  refine x_iload_n 742 3 dL_law_742 rfl rfl ?_
  refine x_iconst 743 (3 : Int32) dL_law_743 (by decide) ?_
  refine x_iadd 744 dL_law_744 ?_
  obtain ⟨h259, H⟩ := x_ckp H
  refine x_siald 745 dL_law_745 h259 h257 ?_
  refine x_aload_n 746 0 dL_law_746 rfl rfl ?_
  refine x_iload_n 747 3 dL_law_747 rfl rfl ?_
  refine x_iconst 748 (4 : Int32) dL_law_748 (by decide) ?_
  refine x_iadd 749 dL_law_749 ?_
  obtain ⟨h260, H⟩ := x_ckp H
  refine x_siald 750 dL_law_750 h260 h257 ?_
  refine x_aload_n 751 0 dL_law_751 rfl rfl ?_
  refine x_iload_n 752 3 dL_law_752 rfl rfl ?_
  refine x_iconst 753 (5 : Int32) dL_law_753 (by decide) ?_
  refine x_iadd 754 dL_law_754 ?_
  obtain ⟨h261, H⟩ := x_ckp H
  refine x_siald 755 dL_law_755 h261 h257 ?_
  obtain ⟨h262, H⟩ := x_ckp H
  obtain ⟨r264, M263, e265, H⟩ := x_bd_of H
  refine x_callV 756 81 9 [(.int (x_i M v0 (v3 + (1 : Int32)).toNatClampNeg)), (.int (x_i M v0 (v3 + (2 : Int32)).toNatClampNeg)), (.int (x_i M v0 (v3 + (3 : Int32)).toNatClampNeg)), (.int (x_i M v0 (v3 + (4 : Int32)).toNatClampNeg)), (.int (x_i M v0 (v3 + (5 : Int32)).toNatClampNeg))] [(.int s0)] dL_law_756 (ct_X9_run l e265) lk_1286 lk_1287 lk_1288 (by decide) h262 lk_94 lk_1289 ⟨cn_X9_run, (by decide), by decide⟩ rfl (Nat.le_of_ble_eq_true rfl) (Nat.le_of_ble_eq_true rfl) (Nat.le_of_ble_eq_true rfl) (x_ri ?_)
  exact t_L_law_c756 l hκ18 H

def f_L_law_701 (κ18 : Nat → Nat → Nat → Int32 → XM → Option (Int32 × XM)) (v0 : Nat) (v1 : Nat) (v2 : Nat) (v3 : Int32) (M : XM) : Option (Int32 × XM) :=
  if x_at M v0 5 (v3 + (1 : Int32)) = true then (if v0 < 20 then (if x_at M v0 5 (v3 + (2 : Int32)) = true then (if x_at M v0 5 (v3 + (3 : Int32)) = true then (if x_at M v0 5 (v3 + (4 : Int32)) = true then (if x_at M v0 5 (v3 + (5 : Int32)) = true then (if x_tag M v1 = 8 + 10 then (x_bd (f_X8_run v1 (x_i M v0 (v3 + (1 : Int32)).toNatClampNeg) (x_i M v0 (v3 + (2 : Int32)).toNatClampNeg) (x_i M v0 (v3 + (3 : Int32)).toNatClampNeg) (x_i M v0 (v3 + (4 : Int32)).toNatClampNeg) (x_i M v0 (v3 + (5 : Int32)).toNatClampNeg) M) (f_L_law_c727 κ18 v0 v1 v2 v3)) else none) else none) else none) else none) else none) else none) else none
set_option maxRecDepth 20000 in
set_option maxHeartbeats 4000000 in
theorem t_L_law_701 (l : Launch) {κ18 : Nat → Nat → Nat → Int32 → XM → Option (Int32 × XM)} {v0 : Nat} {v1 : Nat} {v2 : Nat} {v3 : Int32} {M : XM} {q : Int32 × XM} (hκ18 : ∀ (v0 : Nat) (v1 : Nat) (v2 : Nat) (v3 : Int32) (M : XM), κ18 v0 v1 v2 v3 M = some q → AW l m_L_law 33 600000 7302250 (x_Ri q) 90 14893 18 [some (.ref v0), some (.ref v1), some (.ref v2), some (.int v3)] [] M) (H : f_L_law_701 κ18 v0 v1 v2 v3 M = some q) : AW l m_L_law 33 600000 7302250 (x_Ri q) 90 14893 701 [some (.ref v0), some (.ref v1), some (.ref v2), some (.int v3)] [] M := by
  unfold f_L_law_701 at H
  refine x_aload_n 701 1 dL_law_701 rfl rfl ?_
  refine x_aload_n 702 0 dL_law_702 rfl rfl ?_
  refine x_iload_n 703 3 dL_law_703 rfl rfl ?_
  refine x_iconst 704 (1 : Int32) dL_law_704 (by decide) ?_
  refine x_iadd 705 dL_law_705 ?_
  obtain ⟨h246, H⟩ := x_ckp H
  obtain ⟨h247, H⟩ := x_ckp H
  refine x_siald 706 dL_law_706 h246 h247 ?_
  refine x_aload_n 707 0 dL_law_707 rfl rfl ?_
  refine x_iload_n 708 3 dL_law_708 rfl rfl ?_
  refine x_iconst 709 (2 : Int32) dL_law_709 (by decide) ?_
  refine x_iadd 710 dL_law_710 ?_
  obtain ⟨h248, H⟩ := x_ckp H
  refine x_siald 711 dL_law_711 h248 h247 ?_
  refine x_aload_n 712 0 dL_law_712 rfl rfl ?_
  refine x_iload_n 713 3 dL_law_713 rfl rfl ?_
  refine x_iconst 714 (3 : Int32) dL_law_714 (by decide) ?_
  refine x_iadd 715 dL_law_715 ?_
  obtain ⟨h249, H⟩ := x_ckp H
  refine x_siald 716 dL_law_716 h249 h247 ?_
  refine x_aload_n 717 0 dL_law_717 rfl rfl ?_
  refine x_iload_n 718 3 dL_law_718 rfl rfl ?_
  refine x_iconst 719 (4 : Int32) dL_law_719 (by decide) ?_
  refine x_iadd 720 dL_law_720 ?_
  obtain ⟨h250, H⟩ := x_ckp H
  refine x_siald 721 dL_law_721 h250 h247 ?_
  refine x_aload_n 722 0 dL_law_722 rfl rfl ?_
  refine x_iload_n 723 3 dL_law_723 rfl rfl ?_
  refine x_iconst 724 (5 : Int32) dL_law_724 (by decide) ?_
  refine x_iadd 725 dL_law_725 ?_
  obtain ⟨h251, H⟩ := x_ckp H
  refine x_siald 726 dL_law_726 h251 h247 ?_
  obtain ⟨h252, H⟩ := x_ckp H
  obtain ⟨r254, M253, e255, H⟩ := x_bd_of H
  refine x_callV 727 78 8 [(.int (x_i M v0 (v3 + (1 : Int32)).toNatClampNeg)), (.int (x_i M v0 (v3 + (2 : Int32)).toNatClampNeg)), (.int (x_i M v0 (v3 + (3 : Int32)).toNatClampNeg)), (.int (x_i M v0 (v3 + (4 : Int32)).toNatClampNeg)), (.int (x_i M v0 (v3 + (5 : Int32)).toNatClampNeg))] [] dL_law_727 (ct_X8_run l e255) lk_734 lk_735 lk_736 (by decide) h252 lk_85 lk_737 ⟨cn_X8_run, (by decide), by decide⟩ rfl (Nat.le_of_ble_eq_true rfl) (Nat.le_of_ble_eq_true rfl) (Nat.le_of_ble_eq_true rfl) (x_ri ?_)
  exact t_L_law_c727 l hκ18 H

def f_L_law_c799 (κ18 : Nat → Nat → Nat → Int32 → XM → Option (Int32 × XM)) (v0 : Nat) (v1 : Nat) (v2 : Nat) (v3 : Int32) (s1 : Int32) (s0 : Int32) (M : XM) : Option (Int32 × XM) :=
  if s1 = s0 then (f_L_law_1519 κ18 v0 v1 v2 v3 M) else (some ((0 : Int32), M))
set_option maxRecDepth 20000 in
set_option maxHeartbeats 4000000 in
theorem t_L_law_c799 (l : Launch) {κ18 : Nat → Nat → Nat → Int32 → XM → Option (Int32 × XM)} {v0 : Nat} {v1 : Nat} {v2 : Nat} {v3 : Int32} {s1 : Int32} {s0 : Int32} {M : XM} {q : Int32 × XM} (hκ18 : ∀ (v0 : Nat) (v1 : Nat) (v2 : Nat) (v3 : Int32) (M : XM), κ18 v0 v1 v2 v3 M = some q → AW l m_L_law 33 600000 7302250 (x_Ri q) 90 14893 18 [some (.ref v0), some (.ref v1), some (.ref v2), some (.int v3)] [] M) (H : f_L_law_c799 κ18 v0 v1 v2 v3 s1 s0 M = some q) : AW l m_L_law 33 600000 7302250 (x_Ri q) 90 14893 802 [some (.ref v0), some (.ref v1), some (.ref v2), some (.int v3)] [(.int s0), (.int s1)] M := by
  unfold f_L_law_c799 at H
  refine x_icmp_eq 802 1519 dL_law_802 (by decide) (fun c284 => ?_) (fun c284 => ?_)
  · replace H := x_ifp c284 H
    exact t_L_law_1519 l hκ18 H
  · replace H := x_ifn c284 H
    refine x_iconst 805 (0 : Int32) dL_law_805 (by decide) ?_
    cases H
    exact x_iret 806 dL_law_806 .boolean rfl rfl (Nat.le_of_ble_eq_true rfl) (Nat.le_of_ble_eq_true rfl) ⟨rfl, rfl⟩

def f_L_law_c780 (κ18 : Nat → Nat → Nat → Int32 → XM → Option (Int32 × XM)) (v0 : Nat) (v1 : Nat) (v2 : Nat) (v3 : Int32) (s0 : Int32) (M : XM) : Option (Int32 × XM) :=
  if x_at M v0 5 (v3 + (1 : Int32)) = true then (if v0 < 20 then (if x_at M v0 5 (v3 + (2 : Int32)) = true then (if x_at M v0 5 (v3 + (3 : Int32)) = true then (if x_tag M v2 = 9 + 10 then (x_bd (f_X9_through v2 (x_i M v0 (v3 + (1 : Int32)).toNatClampNeg) (x_i M v0 (v3 + (2 : Int32)).toNatClampNeg) (x_i M v0 (v3 + (3 : Int32)).toNatClampNeg) M) (f_L_law_c799 κ18 v0 v1 v2 v3 s0)) else none) else none) else none) else none) else none
set_option maxRecDepth 20000 in
set_option maxHeartbeats 4000000 in
theorem t_L_law_c780 (l : Launch) {κ18 : Nat → Nat → Nat → Int32 → XM → Option (Int32 × XM)} {v0 : Nat} {v1 : Nat} {v2 : Nat} {v3 : Int32} {s0 : Int32} {M : XM} {q : Int32 × XM} (hκ18 : ∀ (v0 : Nat) (v1 : Nat) (v2 : Nat) (v3 : Int32) (M : XM), κ18 v0 v1 v2 v3 M = some q → AW l m_L_law 33 600000 7302250 (x_Ri q) 90 14893 18 [some (.ref v0), some (.ref v1), some (.ref v2), some (.int v3)] [] M) (H : f_L_law_c780 κ18 v0 v1 v2 v3 s0 M = some q) : AW l m_L_law 33 600000 7302250 (x_Ri q) 90 14893 783 [some (.ref v0), some (.ref v1), some (.ref v2), some (.int v3)] [(.int s0)] M := by
  unfold f_L_law_c780 at H
  refine x_aload_n 783 2 dL_law_783 rfl rfl ?_
  refine x_aload_n 784 0 dL_law_784 rfl rfl ?_
  refine x_iload_n 785 3 dL_law_785 rfl rfl ?_
  refine x_iconst 786 (1 : Int32) dL_law_786 (by decide) ?_
  refine x_iadd 787 dL_law_787 ?_
  obtain ⟨h276, H⟩ := x_ckp H
  obtain ⟨h277, H⟩ := x_ckp H
  refine x_siald 788 dL_law_788 h276 h277 ?_
  refine x_aload_n 789 0 dL_law_789 rfl rfl ?_
  refine x_iload_n 790 3 dL_law_790 rfl rfl ?_
  refine x_iconst 791 (2 : Int32) dL_law_791 (by decide) ?_
  refine x_iadd 792 dL_law_792 ?_
  obtain ⟨h278, H⟩ := x_ckp H
  refine x_siald 793 dL_law_793 h278 h277 ?_
  refine x_aload_n 794 0 dL_law_794 rfl rfl ?_
  refine x_iload_n 795 3 dL_law_795 rfl rfl ?_
  refine x_iconst 796 (3 : Int32) dL_law_796 (by decide) ?_
  refine x_iadd 797 dL_law_797 ?_
  obtain ⟨h279, H⟩ := x_ckp H
  refine x_siald 798 dL_law_798 h279 h277 ?_
  obtain ⟨h280, H⟩ := x_ckp H
  obtain ⟨r282, M281, e283, H⟩ := x_bd_of H
  refine x_callV 799 85 9 [(.int (x_i M v0 (v3 + (1 : Int32)).toNatClampNeg)), (.int (x_i M v0 (v3 + (2 : Int32)).toNatClampNeg)), (.int (x_i M v0 (v3 + (3 : Int32)).toNatClampNeg))] [(.int s0)] dL_law_799 (ct_X9_through l e283) lk_1310 lk_1311 lk_1312 (by decide) h280 lk_94 lk_1313 ⟨cn_X9_through, (by decide), by decide⟩ rfl (Nat.le_of_ble_eq_true rfl) (Nat.le_of_ble_eq_true rfl) (Nat.le_of_ble_eq_true rfl) (x_ri ?_)
  exact t_L_law_c799 l hκ18 H

def f_L_law_764 (κ18 : Nat → Nat → Nat → Int32 → XM → Option (Int32 × XM)) (v0 : Nat) (v1 : Nat) (v2 : Nat) (v3 : Int32) (M : XM) : Option (Int32 × XM) :=
  if x_at M v0 5 (v3 + (1 : Int32)) = true then (if v0 < 20 then (if x_at M v0 5 (v3 + (2 : Int32)) = true then (if x_at M v0 5 (v3 + (3 : Int32)) = true then (if x_tag M v1 = 8 + 10 then (x_bd (f_X8_through v1 (x_i M v0 (v3 + (1 : Int32)).toNatClampNeg) (x_i M v0 (v3 + (2 : Int32)).toNatClampNeg) (x_i M v0 (v3 + (3 : Int32)).toNatClampNeg) M) (f_L_law_c780 κ18 v0 v1 v2 v3)) else none) else none) else none) else none) else none
set_option maxRecDepth 20000 in
set_option maxHeartbeats 4000000 in
theorem t_L_law_764 (l : Launch) {κ18 : Nat → Nat → Nat → Int32 → XM → Option (Int32 × XM)} {v0 : Nat} {v1 : Nat} {v2 : Nat} {v3 : Int32} {M : XM} {q : Int32 × XM} (hκ18 : ∀ (v0 : Nat) (v1 : Nat) (v2 : Nat) (v3 : Int32) (M : XM), κ18 v0 v1 v2 v3 M = some q → AW l m_L_law 33 600000 7302250 (x_Ri q) 90 14893 18 [some (.ref v0), some (.ref v1), some (.ref v2), some (.int v3)] [] M) (H : f_L_law_764 κ18 v0 v1 v2 v3 M = some q) : AW l m_L_law 33 600000 7302250 (x_Ri q) 90 14893 764 [some (.ref v0), some (.ref v1), some (.ref v2), some (.int v3)] [] M := by
  unfold f_L_law_764 at H
  refine x_aload_n 764 1 dL_law_764 rfl rfl ?_
  refine x_aload_n 765 0 dL_law_765 rfl rfl ?_
  refine x_iload_n 766 3 dL_law_766 rfl rfl ?_
  refine x_iconst 767 (1 : Int32) dL_law_767 (by decide) ?_
  refine x_iadd 768 dL_law_768 ?_
  obtain ⟨h268, H⟩ := x_ckp H
  obtain ⟨h269, H⟩ := x_ckp H
  refine x_siald 769 dL_law_769 h268 h269 ?_
  refine x_aload_n 770 0 dL_law_770 rfl rfl ?_
  refine x_iload_n 771 3 dL_law_771 rfl rfl ?_
  refine x_iconst 772 (2 : Int32) dL_law_772 (by decide) ?_
  refine x_iadd 773 dL_law_773 ?_
  obtain ⟨h270, H⟩ := x_ckp H
  refine x_siald 774 dL_law_774 h270 h269 ?_
  refine x_aload_n 775 0 dL_law_775 rfl rfl ?_
  refine x_iload_n 776 3 dL_law_776 rfl rfl ?_
  refine x_iconst 777 (3 : Int32) dL_law_777 (by decide) ?_
  refine x_iadd 778 dL_law_778 ?_
  obtain ⟨h271, H⟩ := x_ckp H
  refine x_siald 779 dL_law_779 h271 h269 ?_
  obtain ⟨h272, H⟩ := x_ckp H
  obtain ⟨r274, M273, e275, H⟩ := x_bd_of H
  refine x_callV 780 82 8 [(.int (x_i M v0 (v3 + (1 : Int32)).toNatClampNeg)), (.int (x_i M v0 (v3 + (2 : Int32)).toNatClampNeg)), (.int (x_i M v0 (v3 + (3 : Int32)).toNatClampNeg))] [] dL_law_780 (ct_X8_through l e275) lk_759 lk_760 lk_761 (by decide) h272 lk_85 lk_762 ⟨cn_X8_through, (by decide), by decide⟩ rfl (Nat.le_of_ble_eq_true rfl) (Nat.le_of_ble_eq_true rfl) (Nat.le_of_ble_eq_true rfl) (x_ri ?_)
  exact t_L_law_c780 l hκ18 H

def f_L_law_c832 (κ18 : Nat → Nat → Nat → Int32 → XM → Option (Int32 × XM)) (v0 : Nat) (v1 : Nat) (v2 : Nat) (v3 : Int32) (s1 : Int32) (s0 : Int32) (M : XM) : Option (Int32 × XM) :=
  if s1 = s0 then (f_L_law_1519 κ18 v0 v1 v2 v3 M) else (some ((0 : Int32), M))
set_option maxRecDepth 20000 in
set_option maxHeartbeats 4000000 in
theorem t_L_law_c832 (l : Launch) {κ18 : Nat → Nat → Nat → Int32 → XM → Option (Int32 × XM)} {v0 : Nat} {v1 : Nat} {v2 : Nat} {v3 : Int32} {s1 : Int32} {s0 : Int32} {M : XM} {q : Int32 × XM} (hκ18 : ∀ (v0 : Nat) (v1 : Nat) (v2 : Nat) (v3 : Int32) (M : XM), κ18 v0 v1 v2 v3 M = some q → AW l m_L_law 33 600000 7302250 (x_Ri q) 90 14893 18 [some (.ref v0), some (.ref v1), some (.ref v2), some (.int v3)] [] M) (H : f_L_law_c832 κ18 v0 v1 v2 v3 s1 s0 M = some q) : AW l m_L_law 33 600000 7302250 (x_Ri q) 90 14893 835 [some (.ref v0), some (.ref v1), some (.ref v2), some (.int v3)] [(.int s0), (.int s1)] M := by
  unfold f_L_law_c832 at H
  refine x_icmp_eq 835 1519 dL_law_835 (by decide) (fun c300 => ?_) (fun c300 => ?_)
  · replace H := x_ifp c300 H
    exact t_L_law_1519 l hκ18 H
  · replace H := x_ifn c300 H
    refine x_iconst 838 (0 : Int32) dL_law_838 (by decide) ?_
    cases H
    exact x_iret 839 dL_law_839 .boolean rfl rfl (Nat.le_of_ble_eq_true rfl) (Nat.le_of_ble_eq_true rfl) ⟨rfl, rfl⟩

def f_L_law_c818 (κ18 : Nat → Nat → Nat → Int32 → XM → Option (Int32 × XM)) (v0 : Nat) (v1 : Nat) (v2 : Nat) (v3 : Int32) (s0 : Int32) (M : XM) : Option (Int32 × XM) :=
  if x_at M v0 5 (v3 + (1 : Int32)) = true then (if v0 < 20 then (if x_at M v0 5 (v3 + (2 : Int32)) = true then (if x_tag M v2 = 9 + 10 then (x_bd (f_X9_chance v2 (x_i M v0 (v3 + (1 : Int32)).toNatClampNeg) (x_i M v0 (v3 + (2 : Int32)).toNatClampNeg) M) (f_L_law_c832 κ18 v0 v1 v2 v3 s0)) else none) else none) else none) else none
set_option maxRecDepth 20000 in
set_option maxHeartbeats 4000000 in
theorem t_L_law_c818 (l : Launch) {κ18 : Nat → Nat → Nat → Int32 → XM → Option (Int32 × XM)} {v0 : Nat} {v1 : Nat} {v2 : Nat} {v3 : Int32} {s0 : Int32} {M : XM} {q : Int32 × XM} (hκ18 : ∀ (v0 : Nat) (v1 : Nat) (v2 : Nat) (v3 : Int32) (M : XM), κ18 v0 v1 v2 v3 M = some q → AW l m_L_law 33 600000 7302250 (x_Ri q) 90 14893 18 [some (.ref v0), some (.ref v1), some (.ref v2), some (.int v3)] [] M) (H : f_L_law_c818 κ18 v0 v1 v2 v3 s0 M = some q) : AW l m_L_law 33 600000 7302250 (x_Ri q) 90 14893 821 [some (.ref v0), some (.ref v1), some (.ref v2), some (.int v3)] [(.int s0)] M := by
  unfold f_L_law_c818 at H
  refine x_aload_n 821 2 dL_law_821 rfl rfl ?_
  refine x_aload_n 822 0 dL_law_822 rfl rfl ?_
  refine x_iload_n 823 3 dL_law_823 rfl rfl ?_
  refine x_iconst 824 (1 : Int32) dL_law_824 (by decide) ?_
  refine x_iadd 825 dL_law_825 ?_
  obtain ⟨h293, H⟩ := x_ckp H
  obtain ⟨h294, H⟩ := x_ckp H
  refine x_siald 826 dL_law_826 h293 h294 ?_
  refine x_aload_n 827 0 dL_law_827 rfl rfl ?_
  refine x_iload_n 828 3 dL_law_828 rfl rfl ?_
  refine x_iconst 829 (2 : Int32) dL_law_829 (by decide) ?_
  refine x_iadd 830 dL_law_830 ?_
  obtain ⟨h295, H⟩ := x_ckp H
  refine x_siald 831 dL_law_831 h295 h294 ?_
  obtain ⟨h296, H⟩ := x_ckp H
  obtain ⟨r298, M297, e299, H⟩ := x_bd_of H
  refine x_callV 832 89 9 [(.int (x_i M v0 (v3 + (1 : Int32)).toNatClampNeg)), (.int (x_i M v0 (v3 + (2 : Int32)).toNatClampNeg))] [(.int s0)] dL_law_832 (ct_X9_chance l e299) lk_1322 lk_1323 lk_1324 (by decide) h296 lk_94 lk_1325 ⟨cn_X9_chance, (by decide), by decide⟩ rfl (Nat.le_of_ble_eq_true rfl) (Nat.le_of_ble_eq_true rfl) (Nat.le_of_ble_eq_true rfl) (x_ri ?_)
  exact t_L_law_c832 l hκ18 H

def f_L_law_807 (κ18 : Nat → Nat → Nat → Int32 → XM → Option (Int32 × XM)) (v0 : Nat) (v1 : Nat) (v2 : Nat) (v3 : Int32) (M : XM) : Option (Int32 × XM) :=
  if x_at M v0 5 (v3 + (1 : Int32)) = true then (if v0 < 20 then (if x_at M v0 5 (v3 + (2 : Int32)) = true then (if x_tag M v1 = 8 + 10 then (x_bd (f_X8_chance v1 (x_i M v0 (v3 + (1 : Int32)).toNatClampNeg) (x_i M v0 (v3 + (2 : Int32)).toNatClampNeg) M) (f_L_law_c818 κ18 v0 v1 v2 v3)) else none) else none) else none) else none
set_option maxRecDepth 20000 in
set_option maxHeartbeats 4000000 in
theorem t_L_law_807 (l : Launch) {κ18 : Nat → Nat → Nat → Int32 → XM → Option (Int32 × XM)} {v0 : Nat} {v1 : Nat} {v2 : Nat} {v3 : Int32} {M : XM} {q : Int32 × XM} (hκ18 : ∀ (v0 : Nat) (v1 : Nat) (v2 : Nat) (v3 : Int32) (M : XM), κ18 v0 v1 v2 v3 M = some q → AW l m_L_law 33 600000 7302250 (x_Ri q) 90 14893 18 [some (.ref v0), some (.ref v1), some (.ref v2), some (.int v3)] [] M) (H : f_L_law_807 κ18 v0 v1 v2 v3 M = some q) : AW l m_L_law 33 600000 7302250 (x_Ri q) 90 14893 807 [some (.ref v0), some (.ref v1), some (.ref v2), some (.int v3)] [] M := by
  unfold f_L_law_807 at H
  refine x_aload_n 807 1 dL_law_807 rfl rfl ?_
  refine x_aload_n 808 0 dL_law_808 rfl rfl ?_
  refine x_iload_n 809 3 dL_law_809 rfl rfl ?_
  refine x_iconst 810 (1 : Int32) dL_law_810 (by decide) ?_
  refine x_iadd 811 dL_law_811 ?_
  obtain ⟨h286, H⟩ := x_ckp H
  obtain ⟨h287, H⟩ := x_ckp H
  refine x_siald 812 dL_law_812 h286 h287 ?_
  refine x_aload_n 813 0 dL_law_813 rfl rfl ?_
  refine x_iload_n 814 3 dL_law_814 rfl rfl ?_
  refine x_iconst 815 (2 : Int32) dL_law_815 (by decide) ?_
  refine x_iadd 816 dL_law_816 ?_
  obtain ⟨h288, H⟩ := x_ckp H
  refine x_siald 817 dL_law_817 h288 h287 ?_
  obtain ⟨h289, H⟩ := x_ckp H
  obtain ⟨r291, M290, e292, H⟩ := x_bd_of H
  refine x_callV 818 86 8 [(.int (x_i M v0 (v3 + (1 : Int32)).toNatClampNeg)), (.int (x_i M v0 (v3 + (2 : Int32)).toNatClampNeg))] [] dL_law_818 (ct_X8_chance l e292) lk_772 lk_773 lk_774 (by decide) h289 lk_85 lk_775 ⟨cn_X8_chance, (by decide), by decide⟩ rfl (Nat.le_of_ble_eq_true rfl) (Nat.le_of_ble_eq_true rfl) (Nat.le_of_ble_eq_true rfl) (x_ri ?_)
  exact t_L_law_c818 l hκ18 H

def f_L_law_c865 (κ18 : Nat → Nat → Nat → Int32 → XM → Option (Int32 × XM)) (v0 : Nat) (v1 : Nat) (v2 : Nat) (v3 : Int32) (s1 : Int32) (s0 : Int32) (M : XM) : Option (Int32 × XM) :=
  if s1 = s0 then (f_L_law_1519 κ18 v0 v1 v2 v3 M) else (some ((0 : Int32), M))
set_option maxRecDepth 20000 in
set_option maxHeartbeats 4000000 in
theorem t_L_law_c865 (l : Launch) {κ18 : Nat → Nat → Nat → Int32 → XM → Option (Int32 × XM)} {v0 : Nat} {v1 : Nat} {v2 : Nat} {v3 : Int32} {s1 : Int32} {s0 : Int32} {M : XM} {q : Int32 × XM} (hκ18 : ∀ (v0 : Nat) (v1 : Nat) (v2 : Nat) (v3 : Int32) (M : XM), κ18 v0 v1 v2 v3 M = some q → AW l m_L_law 33 600000 7302250 (x_Ri q) 90 14893 18 [some (.ref v0), some (.ref v1), some (.ref v2), some (.int v3)] [] M) (H : f_L_law_c865 κ18 v0 v1 v2 v3 s1 s0 M = some q) : AW l m_L_law 33 600000 7302250 (x_Ri q) 90 14893 868 [some (.ref v0), some (.ref v1), some (.ref v2), some (.int v3)] [(.int s0), (.int s1)] M := by
  unfold f_L_law_c865 at H
  refine x_icmp_eq 868 1519 dL_law_868 (by decide) (fun c316 => ?_) (fun c316 => ?_)
  · replace H := x_ifp c316 H
    exact t_L_law_1519 l hκ18 H
  · replace H := x_ifn c316 H
    refine x_iconst 871 (0 : Int32) dL_law_871 (by decide) ?_
    cases H
    exact x_iret 872 dL_law_872 .boolean rfl rfl (Nat.le_of_ble_eq_true rfl) (Nat.le_of_ble_eq_true rfl) ⟨rfl, rfl⟩

def f_L_law_c851 (κ18 : Nat → Nat → Nat → Int32 → XM → Option (Int32 × XM)) (v0 : Nat) (v1 : Nat) (v2 : Nat) (v3 : Int32) (s0 : Int32) (M : XM) : Option (Int32 × XM) :=
  if x_at M v0 5 (v3 + (1 : Int32)) = true then (if v0 < 20 then (if x_at M v0 5 (v3 + (2 : Int32)) = true then (if x_tag M v2 = 9 + 10 then (x_bd (f_X9_median v2 (x_i M v0 (v3 + (1 : Int32)).toNatClampNeg) (x_i M v0 (v3 + (2 : Int32)).toNatClampNeg) M) (f_L_law_c865 κ18 v0 v1 v2 v3 s0)) else none) else none) else none) else none
set_option maxRecDepth 20000 in
set_option maxHeartbeats 4000000 in
theorem t_L_law_c851 (l : Launch) {κ18 : Nat → Nat → Nat → Int32 → XM → Option (Int32 × XM)} {v0 : Nat} {v1 : Nat} {v2 : Nat} {v3 : Int32} {s0 : Int32} {M : XM} {q : Int32 × XM} (hκ18 : ∀ (v0 : Nat) (v1 : Nat) (v2 : Nat) (v3 : Int32) (M : XM), κ18 v0 v1 v2 v3 M = some q → AW l m_L_law 33 600000 7302250 (x_Ri q) 90 14893 18 [some (.ref v0), some (.ref v1), some (.ref v2), some (.int v3)] [] M) (H : f_L_law_c851 κ18 v0 v1 v2 v3 s0 M = some q) : AW l m_L_law 33 600000 7302250 (x_Ri q) 90 14893 854 [some (.ref v0), some (.ref v1), some (.ref v2), some (.int v3)] [(.int s0)] M := by
  unfold f_L_law_c851 at H
  refine x_aload_n 854 2 dL_law_854 rfl rfl ?_
  refine x_aload_n 855 0 dL_law_855 rfl rfl ?_
  refine x_iload_n 856 3 dL_law_856 rfl rfl ?_
  refine x_iconst 857 (1 : Int32) dL_law_857 (by decide) ?_
  refine x_iadd 858 dL_law_858 ?_
  obtain ⟨h309, H⟩ := x_ckp H
  obtain ⟨h310, H⟩ := x_ckp H
  refine x_siald 859 dL_law_859 h309 h310 ?_
  refine x_aload_n 860 0 dL_law_860 rfl rfl ?_
  refine x_iload_n 861 3 dL_law_861 rfl rfl ?_
  refine x_iconst 862 (2 : Int32) dL_law_862 (by decide) ?_
  refine x_iadd 863 dL_law_863 ?_
  obtain ⟨h311, H⟩ := x_ckp H
  refine x_siald 864 dL_law_864 h311 h310 ?_
  obtain ⟨h312, H⟩ := x_ckp H
  obtain ⟨r314, M313, e315, H⟩ := x_bd_of H
  refine x_callV 865 93 9 [(.int (x_i M v0 (v3 + (1 : Int32)).toNatClampNeg)), (.int (x_i M v0 (v3 + (2 : Int32)).toNatClampNeg))] [(.int s0)] dL_law_865 (ct_X9_median l e315) lk_1352 lk_1353 lk_1354 (by decide) h312 lk_94 lk_1355 ⟨cn_X9_median, (by decide), by decide⟩ rfl (Nat.le_of_ble_eq_true rfl) (Nat.le_of_ble_eq_true rfl) (Nat.le_of_ble_eq_true rfl) (x_ri ?_)
  exact t_L_law_c865 l hκ18 H

def f_L_law_840 (κ18 : Nat → Nat → Nat → Int32 → XM → Option (Int32 × XM)) (v0 : Nat) (v1 : Nat) (v2 : Nat) (v3 : Int32) (M : XM) : Option (Int32 × XM) :=
  if x_at M v0 5 (v3 + (1 : Int32)) = true then (if v0 < 20 then (if x_at M v0 5 (v3 + (2 : Int32)) = true then (if x_tag M v1 = 8 + 10 then (x_bd (f_X8_median v1 (x_i M v0 (v3 + (1 : Int32)).toNatClampNeg) (x_i M v0 (v3 + (2 : Int32)).toNatClampNeg) M) (f_L_law_c851 κ18 v0 v1 v2 v3)) else none) else none) else none) else none
set_option maxRecDepth 20000 in
set_option maxHeartbeats 4000000 in
theorem t_L_law_840 (l : Launch) {κ18 : Nat → Nat → Nat → Int32 → XM → Option (Int32 × XM)} {v0 : Nat} {v1 : Nat} {v2 : Nat} {v3 : Int32} {M : XM} {q : Int32 × XM} (hκ18 : ∀ (v0 : Nat) (v1 : Nat) (v2 : Nat) (v3 : Int32) (M : XM), κ18 v0 v1 v2 v3 M = some q → AW l m_L_law 33 600000 7302250 (x_Ri q) 90 14893 18 [some (.ref v0), some (.ref v1), some (.ref v2), some (.int v3)] [] M) (H : f_L_law_840 κ18 v0 v1 v2 v3 M = some q) : AW l m_L_law 33 600000 7302250 (x_Ri q) 90 14893 840 [some (.ref v0), some (.ref v1), some (.ref v2), some (.int v3)] [] M := by
  unfold f_L_law_840 at H
  refine x_aload_n 840 1 dL_law_840 rfl rfl ?_
  refine x_aload_n 841 0 dL_law_841 rfl rfl ?_
  refine x_iload_n 842 3 dL_law_842 rfl rfl ?_
  refine x_iconst 843 (1 : Int32) dL_law_843 (by decide) ?_
  refine x_iadd 844 dL_law_844 ?_
  obtain ⟨h302, H⟩ := x_ckp H
  obtain ⟨h303, H⟩ := x_ckp H
  refine x_siald 845 dL_law_845 h302 h303 ?_
  refine x_aload_n 846 0 dL_law_846 rfl rfl ?_
  refine x_iload_n 847 3 dL_law_847 rfl rfl ?_
  refine x_iconst 848 (2 : Int32) dL_law_848 (by decide) ?_
  refine x_iadd 849 dL_law_849 ?_
  obtain ⟨h304, H⟩ := x_ckp H
  refine x_siald 850 dL_law_850 h304 h303 ?_
  obtain ⟨h305, H⟩ := x_ckp H
  obtain ⟨r307, M306, e308, H⟩ := x_bd_of H
  refine x_callV 851 90 8 [(.int (x_i M v0 (v3 + (1 : Int32)).toNatClampNeg)), (.int (x_i M v0 (v3 + (2 : Int32)).toNatClampNeg))] [] dL_law_851 (ct_X8_median l e308) lk_809 lk_810 lk_811 (by decide) h305 lk_85 lk_812 ⟨cn_X8_median, (by decide), by decide⟩ rfl (Nat.le_of_ble_eq_true rfl) (Nat.le_of_ble_eq_true rfl) (Nat.le_of_ble_eq_true rfl) (x_ri ?_)
  exact t_L_law_c851 l hκ18 H

def f_L_law_c898 (κ18 : Nat → Nat → Nat → Int32 → XM → Option (Int32 × XM)) (v0 : Nat) (v1 : Nat) (v2 : Nat) (v3 : Int32) (s1 : Int32) (s0 : Int32) (M : XM) : Option (Int32 × XM) :=
  if s1 = s0 then (f_L_law_1519 κ18 v0 v1 v2 v3 M) else (some ((0 : Int32), M))
set_option maxRecDepth 20000 in
set_option maxHeartbeats 4000000 in
theorem t_L_law_c898 (l : Launch) {κ18 : Nat → Nat → Nat → Int32 → XM → Option (Int32 × XM)} {v0 : Nat} {v1 : Nat} {v2 : Nat} {v3 : Int32} {s1 : Int32} {s0 : Int32} {M : XM} {q : Int32 × XM} (hκ18 : ∀ (v0 : Nat) (v1 : Nat) (v2 : Nat) (v3 : Int32) (M : XM), κ18 v0 v1 v2 v3 M = some q → AW l m_L_law 33 600000 7302250 (x_Ri q) 90 14893 18 [some (.ref v0), some (.ref v1), some (.ref v2), some (.int v3)] [] M) (H : f_L_law_c898 κ18 v0 v1 v2 v3 s1 s0 M = some q) : AW l m_L_law 33 600000 7302250 (x_Ri q) 90 14893 901 [some (.ref v0), some (.ref v1), some (.ref v2), some (.int v3)] [(.int s0), (.int s1)] M := by
  unfold f_L_law_c898 at H
  refine x_icmp_eq 901 1519 dL_law_901 (by decide) (fun c332 => ?_) (fun c332 => ?_)
  · replace H := x_ifp c332 H
    exact t_L_law_1519 l hκ18 H
  · replace H := x_ifn c332 H
    refine x_iconst 904 (0 : Int32) dL_law_904 (by decide) ?_
    cases H
    exact x_iret 905 dL_law_905 .boolean rfl rfl (Nat.le_of_ble_eq_true rfl) (Nat.le_of_ble_eq_true rfl) ⟨rfl, rfl⟩

def f_L_law_c884 (κ18 : Nat → Nat → Nat → Int32 → XM → Option (Int32 × XM)) (v0 : Nat) (v1 : Nat) (v2 : Nat) (v3 : Int32) (s0 : Int32) (M : XM) : Option (Int32 × XM) :=
  if x_at M v0 5 (v3 + (1 : Int32)) = true then (if v0 < 20 then (if x_at M v0 5 (v3 + (2 : Int32)) = true then (if x_tag M v2 = 9 + 10 then (x_bd (f_X9_bestApart v2 (x_i M v0 (v3 + (1 : Int32)).toNatClampNeg) (x_i M v0 (v3 + (2 : Int32)).toNatClampNeg) M) (f_L_law_c898 κ18 v0 v1 v2 v3 s0)) else none) else none) else none) else none
set_option maxRecDepth 20000 in
set_option maxHeartbeats 4000000 in
theorem t_L_law_c884 (l : Launch) {κ18 : Nat → Nat → Nat → Int32 → XM → Option (Int32 × XM)} {v0 : Nat} {v1 : Nat} {v2 : Nat} {v3 : Int32} {s0 : Int32} {M : XM} {q : Int32 × XM} (hκ18 : ∀ (v0 : Nat) (v1 : Nat) (v2 : Nat) (v3 : Int32) (M : XM), κ18 v0 v1 v2 v3 M = some q → AW l m_L_law 33 600000 7302250 (x_Ri q) 90 14893 18 [some (.ref v0), some (.ref v1), some (.ref v2), some (.int v3)] [] M) (H : f_L_law_c884 κ18 v0 v1 v2 v3 s0 M = some q) : AW l m_L_law 33 600000 7302250 (x_Ri q) 90 14893 887 [some (.ref v0), some (.ref v1), some (.ref v2), some (.int v3)] [(.int s0)] M := by
  unfold f_L_law_c884 at H
  refine x_aload_n 887 2 dL_law_887 rfl rfl ?_
  refine x_aload_n 888 0 dL_law_888 rfl rfl ?_
  refine x_iload_n 889 3 dL_law_889 rfl rfl ?_
  refine x_iconst 890 (1 : Int32) dL_law_890 (by decide) ?_
  refine x_iadd 891 dL_law_891 ?_
  obtain ⟨h325, H⟩ := x_ckp H
  obtain ⟨h326, H⟩ := x_ckp H
  refine x_siald 892 dL_law_892 h325 h326 ?_
  refine x_aload_n 893 0 dL_law_893 rfl rfl ?_
  refine x_iload_n 894 3 dL_law_894 rfl rfl ?_
  refine x_iconst 895 (2 : Int32) dL_law_895 (by decide) ?_
  refine x_iadd 896 dL_law_896 ?_
  obtain ⟨h327, H⟩ := x_ckp H
  refine x_siald 897 dL_law_897 h327 h326 ?_
  obtain ⟨h328, H⟩ := x_ckp H
  obtain ⟨r330, M329, e331, H⟩ := x_bd_of H
  refine x_callV 898 97 9 [(.int (x_i M v0 (v3 + (1 : Int32)).toNatClampNeg)), (.int (x_i M v0 (v3 + (2 : Int32)).toNatClampNeg))] [(.int s0)] dL_law_898 (ct_X9_bestApart l e331) lk_1360 lk_1361 lk_1362 (by decide) h328 lk_94 lk_1363 ⟨cn_X9_bestApart, (by decide), by decide⟩ rfl (Nat.le_of_ble_eq_true rfl) (Nat.le_of_ble_eq_true rfl) (Nat.le_of_ble_eq_true rfl) (x_ri ?_)
  exact t_L_law_c898 l hκ18 H

def f_L_law_873 (κ18 : Nat → Nat → Nat → Int32 → XM → Option (Int32 × XM)) (v0 : Nat) (v1 : Nat) (v2 : Nat) (v3 : Int32) (M : XM) : Option (Int32 × XM) :=
  if x_at M v0 5 (v3 + (1 : Int32)) = true then (if v0 < 20 then (if x_at M v0 5 (v3 + (2 : Int32)) = true then (if x_tag M v1 = 8 + 10 then (x_bd (f_X8_bestApart v1 (x_i M v0 (v3 + (1 : Int32)).toNatClampNeg) (x_i M v0 (v3 + (2 : Int32)).toNatClampNeg) M) (f_L_law_c884 κ18 v0 v1 v2 v3)) else none) else none) else none) else none
set_option maxRecDepth 20000 in
set_option maxHeartbeats 4000000 in
theorem t_L_law_873 (l : Launch) {κ18 : Nat → Nat → Nat → Int32 → XM → Option (Int32 × XM)} {v0 : Nat} {v1 : Nat} {v2 : Nat} {v3 : Int32} {M : XM} {q : Int32 × XM} (hκ18 : ∀ (v0 : Nat) (v1 : Nat) (v2 : Nat) (v3 : Int32) (M : XM), κ18 v0 v1 v2 v3 M = some q → AW l m_L_law 33 600000 7302250 (x_Ri q) 90 14893 18 [some (.ref v0), some (.ref v1), some (.ref v2), some (.int v3)] [] M) (H : f_L_law_873 κ18 v0 v1 v2 v3 M = some q) : AW l m_L_law 33 600000 7302250 (x_Ri q) 90 14893 873 [some (.ref v0), some (.ref v1), some (.ref v2), some (.int v3)] [] M := by
  unfold f_L_law_873 at H
  refine x_aload_n 873 1 dL_law_873 rfl rfl ?_
  refine x_aload_n 874 0 dL_law_874 rfl rfl ?_
  refine x_iload_n 875 3 dL_law_875 rfl rfl ?_
  refine x_iconst 876 (1 : Int32) dL_law_876 (by decide) ?_
  refine x_iadd 877 dL_law_877 ?_
  obtain ⟨h318, H⟩ := x_ckp H
  obtain ⟨h319, H⟩ := x_ckp H
  refine x_siald 878 dL_law_878 h318 h319 ?_
  refine x_aload_n 879 0 dL_law_879 rfl rfl ?_
  refine x_iload_n 880 3 dL_law_880 rfl rfl ?_
  refine x_iconst 881 (2 : Int32) dL_law_881 (by decide) ?_
  refine x_iadd 882 dL_law_882 ?_
  obtain ⟨h320, H⟩ := x_ckp H
  refine x_siald 883 dL_law_883 h320 h319 ?_
  obtain ⟨h321, H⟩ := x_ckp H
  obtain ⟨r323, M322, e324, H⟩ := x_bd_of H
  refine x_callV 884 94 8 [(.int (x_i M v0 (v3 + (1 : Int32)).toNatClampNeg)), (.int (x_i M v0 (v3 + (2 : Int32)).toNatClampNeg))] [] dL_law_884 (ct_X8_bestApart l e324) lk_822 lk_823 lk_824 (by decide) h321 lk_85 lk_825 ⟨cn_X8_bestApart, (by decide), by decide⟩ rfl (Nat.le_of_ble_eq_true rfl) (Nat.le_of_ble_eq_true rfl) (Nat.le_of_ble_eq_true rfl) (x_ri ?_)
  exact t_L_law_c884 l hκ18 H

def f_L_law_c941 (κ18 : Nat → Nat → Nat → Int32 → XM → Option (Int32 × XM)) (v0 : Nat) (v1 : Nat) (v2 : Nat) (v3 : Int32) (s1 : Int32) (s0 : Int32) (M : XM) : Option (Int32 × XM) :=
  if s1 = s0 then (f_L_law_1519 κ18 v0 v1 v2 v3 M) else (some ((0 : Int32), M))
set_option maxRecDepth 20000 in
set_option maxHeartbeats 4000000 in
theorem t_L_law_c941 (l : Launch) {κ18 : Nat → Nat → Nat → Int32 → XM → Option (Int32 × XM)} {v0 : Nat} {v1 : Nat} {v2 : Nat} {v3 : Int32} {s1 : Int32} {s0 : Int32} {M : XM} {q : Int32 × XM} (hκ18 : ∀ (v0 : Nat) (v1 : Nat) (v2 : Nat) (v3 : Int32) (M : XM), κ18 v0 v1 v2 v3 M = some q → AW l m_L_law 33 600000 7302250 (x_Ri q) 90 14893 18 [some (.ref v0), some (.ref v1), some (.ref v2), some (.int v3)] [] M) (H : f_L_law_c941 κ18 v0 v1 v2 v3 s1 s0 M = some q) : AW l m_L_law 33 600000 7302250 (x_Ri q) 90 14893 944 [some (.ref v0), some (.ref v1), some (.ref v2), some (.int v3)] [(.int s0), (.int s1)] M := by
  unfold f_L_law_c941 at H
  refine x_icmp_eq 944 1519 dL_law_944 (by decide) (fun c350 => ?_) (fun c350 => ?_)
  · replace H := x_ifp c350 H
    exact t_L_law_1519 l hκ18 H
  · replace H := x_ifn c350 H
    refine x_iconst 947 (0 : Int32) dL_law_947 (by decide) ?_
    cases H
    exact x_iret 948 dL_law_948 .boolean rfl rfl (Nat.le_of_ble_eq_true rfl) (Nat.le_of_ble_eq_true rfl) ⟨rfl, rfl⟩

def f_L_law_c922 (κ18 : Nat → Nat → Nat → Int32 → XM → Option (Int32 × XM)) (v0 : Nat) (v1 : Nat) (v2 : Nat) (v3 : Int32) (s0 : Int32) (M : XM) : Option (Int32 × XM) :=
  if x_at M v0 5 (v3 + (1 : Int32)) = true then (if v0 < 20 then (if x_at M v0 5 (v3 + (2 : Int32)) = true then (if x_at M v0 5 (v3 + (3 : Int32)) = true then (if x_tag M v2 = 9 + 10 then (x_bd (f_X9_when v2 (x_i M v0 (v3 + (1 : Int32)).toNatClampNeg) (x_i M v0 (v3 + (2 : Int32)).toNatClampNeg) (x_i M v0 (v3 + (3 : Int32)).toNatClampNeg) M) (f_L_law_c941 κ18 v0 v1 v2 v3 s0)) else none) else none) else none) else none) else none
set_option maxRecDepth 20000 in
set_option maxHeartbeats 4000000 in
theorem t_L_law_c922 (l : Launch) {κ18 : Nat → Nat → Nat → Int32 → XM → Option (Int32 × XM)} {v0 : Nat} {v1 : Nat} {v2 : Nat} {v3 : Int32} {s0 : Int32} {M : XM} {q : Int32 × XM} (hκ18 : ∀ (v0 : Nat) (v1 : Nat) (v2 : Nat) (v3 : Int32) (M : XM), κ18 v0 v1 v2 v3 M = some q → AW l m_L_law 33 600000 7302250 (x_Ri q) 90 14893 18 [some (.ref v0), some (.ref v1), some (.ref v2), some (.int v3)] [] M) (H : f_L_law_c922 κ18 v0 v1 v2 v3 s0 M = some q) : AW l m_L_law 33 600000 7302250 (x_Ri q) 90 14893 925 [some (.ref v0), some (.ref v1), some (.ref v2), some (.int v3)] [(.int s0)] M := by
  unfold f_L_law_c922 at H
  refine x_aload_n 925 2 dL_law_925 rfl rfl ?_
  refine x_aload_n 926 0 dL_law_926 rfl rfl ?_
  refine x_iload_n 927 3 dL_law_927 rfl rfl ?_
  refine x_iconst 928 (1 : Int32) dL_law_928 (by decide) ?_
  refine x_iadd 929 dL_law_929 ?_
  obtain ⟨h342, H⟩ := x_ckp H
  obtain ⟨h343, H⟩ := x_ckp H
  refine x_siald 930 dL_law_930 h342 h343 ?_
  refine x_aload_n 931 0 dL_law_931 rfl rfl ?_
  refine x_iload_n 932 3 dL_law_932 rfl rfl ?_
  refine x_iconst 933 (2 : Int32) dL_law_933 (by decide) ?_
  refine x_iadd 934 dL_law_934 ?_
  obtain ⟨h344, H⟩ := x_ckp H
  refine x_siald 935 dL_law_935 h344 h343 ?_
  refine x_aload_n 936 0 dL_law_936 rfl rfl ?_
  refine x_iload_n 937 3 dL_law_937 rfl rfl ?_
  refine x_iconst 938 (3 : Int32) dL_law_938 (by decide) ?_
  refine x_iadd 939 dL_law_939 ?_
  obtain ⟨h345, H⟩ := x_ckp H
  refine x_siald 940 dL_law_940 h345 h343 ?_
  obtain ⟨h346, H⟩ := x_ckp H
  obtain ⟨r348, M347, e349, H⟩ := x_bd_of H
  refine x_callV 941 101 9 [(.int (x_i M v0 (v3 + (1 : Int32)).toNatClampNeg)), (.int (x_i M v0 (v3 + (2 : Int32)).toNatClampNeg)), (.int (x_i M v0 (v3 + (3 : Int32)).toNatClampNeg))] [(.int s0)] dL_law_941 (ct_X9_when l e349) lk_1368 lk_1369 lk_1370 (by decide) h346 lk_94 lk_1371 ⟨cn_X9_when, (by decide), by decide⟩ rfl (Nat.le_of_ble_eq_true rfl) (Nat.le_of_ble_eq_true rfl) (Nat.le_of_ble_eq_true rfl) (x_ri ?_)
  exact t_L_law_c941 l hκ18 H

def f_L_law_906 (κ18 : Nat → Nat → Nat → Int32 → XM → Option (Int32 × XM)) (v0 : Nat) (v1 : Nat) (v2 : Nat) (v3 : Int32) (M : XM) : Option (Int32 × XM) :=
  if x_at M v0 5 (v3 + (1 : Int32)) = true then (if v0 < 20 then (if x_at M v0 5 (v3 + (2 : Int32)) = true then (if x_at M v0 5 (v3 + (3 : Int32)) = true then (if x_tag M v1 = 8 + 10 then (x_bd (f_X8_when v1 (x_i M v0 (v3 + (1 : Int32)).toNatClampNeg) (x_i M v0 (v3 + (2 : Int32)).toNatClampNeg) (x_i M v0 (v3 + (3 : Int32)).toNatClampNeg) M) (f_L_law_c922 κ18 v0 v1 v2 v3)) else none) else none) else none) else none) else none
set_option maxRecDepth 20000 in
set_option maxHeartbeats 4000000 in
theorem t_L_law_906 (l : Launch) {κ18 : Nat → Nat → Nat → Int32 → XM → Option (Int32 × XM)} {v0 : Nat} {v1 : Nat} {v2 : Nat} {v3 : Int32} {M : XM} {q : Int32 × XM} (hκ18 : ∀ (v0 : Nat) (v1 : Nat) (v2 : Nat) (v3 : Int32) (M : XM), κ18 v0 v1 v2 v3 M = some q → AW l m_L_law 33 600000 7302250 (x_Ri q) 90 14893 18 [some (.ref v0), some (.ref v1), some (.ref v2), some (.int v3)] [] M) (H : f_L_law_906 κ18 v0 v1 v2 v3 M = some q) : AW l m_L_law 33 600000 7302250 (x_Ri q) 90 14893 906 [some (.ref v0), some (.ref v1), some (.ref v2), some (.int v3)] [] M := by
  unfold f_L_law_906 at H
  refine x_aload_n 906 1 dL_law_906 rfl rfl ?_
  refine x_aload_n 907 0 dL_law_907 rfl rfl ?_
  refine x_iload_n 908 3 dL_law_908 rfl rfl ?_
  refine x_iconst 909 (1 : Int32) dL_law_909 (by decide) ?_
  refine x_iadd 910 dL_law_910 ?_
  obtain ⟨h334, H⟩ := x_ckp H
  obtain ⟨h335, H⟩ := x_ckp H
  refine x_siald 911 dL_law_911 h334 h335 ?_
  refine x_aload_n 912 0 dL_law_912 rfl rfl ?_
  refine x_iload_n 913 3 dL_law_913 rfl rfl ?_
  refine x_iconst 914 (2 : Int32) dL_law_914 (by decide) ?_
  refine x_iadd 915 dL_law_915 ?_
  obtain ⟨h336, H⟩ := x_ckp H
  refine x_siald 916 dL_law_916 h336 h335 ?_
  refine x_aload_n 917 0 dL_law_917 rfl rfl ?_
  refine x_iload_n 918 3 dL_law_918 rfl rfl ?_
  refine x_iconst 919 (3 : Int32) dL_law_919 (by decide) ?_
  refine x_iadd 920 dL_law_920 ?_
  obtain ⟨h337, H⟩ := x_ckp H
  refine x_siald 921 dL_law_921 h337 h335 ?_
  obtain ⟨h338, H⟩ := x_ckp H
  obtain ⟨r340, M339, e341, H⟩ := x_bd_of H
  refine x_callV 922 98 8 [(.int (x_i M v0 (v3 + (1 : Int32)).toNatClampNeg)), (.int (x_i M v0 (v3 + (2 : Int32)).toNatClampNeg)), (.int (x_i M v0 (v3 + (3 : Int32)).toNatClampNeg))] [] dL_law_922 (ct_X8_when l e341) lk_828 lk_829 lk_830 (by decide) h338 lk_85 lk_831 ⟨cn_X8_when, (by decide), by decide⟩ rfl (Nat.le_of_ble_eq_true rfl) (Nat.le_of_ble_eq_true rfl) (Nat.le_of_ble_eq_true rfl) (x_ri ?_)
  exact t_L_law_c922 l hκ18 H

def f_L_law_c974 (κ18 : Nat → Nat → Nat → Int32 → XM → Option (Int32 × XM)) (v0 : Nat) (v1 : Nat) (v2 : Nat) (v3 : Int32) (s1 : Int32) (s0 : Int32) (M : XM) : Option (Int32 × XM) :=
  if s1 = s0 then (f_L_law_1519 κ18 v0 v1 v2 v3 M) else (some ((0 : Int32), M))
set_option maxRecDepth 20000 in
set_option maxHeartbeats 4000000 in
theorem t_L_law_c974 (l : Launch) {κ18 : Nat → Nat → Nat → Int32 → XM → Option (Int32 × XM)} {v0 : Nat} {v1 : Nat} {v2 : Nat} {v3 : Int32} {s1 : Int32} {s0 : Int32} {M : XM} {q : Int32 × XM} (hκ18 : ∀ (v0 : Nat) (v1 : Nat) (v2 : Nat) (v3 : Int32) (M : XM), κ18 v0 v1 v2 v3 M = some q → AW l m_L_law 33 600000 7302250 (x_Ri q) 90 14893 18 [some (.ref v0), some (.ref v1), some (.ref v2), some (.int v3)] [] M) (H : f_L_law_c974 κ18 v0 v1 v2 v3 s1 s0 M = some q) : AW l m_L_law 33 600000 7302250 (x_Ri q) 90 14893 977 [some (.ref v0), some (.ref v1), some (.ref v2), some (.int v3)] [(.int s0), (.int s1)] M := by
  unfold f_L_law_c974 at H
  refine x_icmp_eq 977 1519 dL_law_977 (by decide) (fun c366 => ?_) (fun c366 => ?_)
  · replace H := x_ifp c366 H
    exact t_L_law_1519 l hκ18 H
  · replace H := x_ifn c366 H
    refine x_iconst 980 (0 : Int32) dL_law_980 (by decide) ?_
    cases H
    exact x_iret 981 dL_law_981 .boolean rfl rfl (Nat.le_of_ble_eq_true rfl) (Nat.le_of_ble_eq_true rfl) ⟨rfl, rfl⟩

def f_L_law_c960 (κ18 : Nat → Nat → Nat → Int32 → XM → Option (Int32 × XM)) (v0 : Nat) (v1 : Nat) (v2 : Nat) (v3 : Int32) (s0 : Int32) (M : XM) : Option (Int32 × XM) :=
  if x_at M v0 5 (v3 + (1 : Int32)) = true then (if v0 < 20 then (if x_at M v0 5 (v3 + (2 : Int32)) = true then (if x_tag M v2 = 9 + 10 then (x_bd (f_X9_longest v2 (x_i M v0 (v3 + (1 : Int32)).toNatClampNeg) (x_i M v0 (v3 + (2 : Int32)).toNatClampNeg) M) (f_L_law_c974 κ18 v0 v1 v2 v3 s0)) else none) else none) else none) else none
set_option maxRecDepth 20000 in
set_option maxHeartbeats 4000000 in
theorem t_L_law_c960 (l : Launch) {κ18 : Nat → Nat → Nat → Int32 → XM → Option (Int32 × XM)} {v0 : Nat} {v1 : Nat} {v2 : Nat} {v3 : Int32} {s0 : Int32} {M : XM} {q : Int32 × XM} (hκ18 : ∀ (v0 : Nat) (v1 : Nat) (v2 : Nat) (v3 : Int32) (M : XM), κ18 v0 v1 v2 v3 M = some q → AW l m_L_law 33 600000 7302250 (x_Ri q) 90 14893 18 [some (.ref v0), some (.ref v1), some (.ref v2), some (.int v3)] [] M) (H : f_L_law_c960 κ18 v0 v1 v2 v3 s0 M = some q) : AW l m_L_law 33 600000 7302250 (x_Ri q) 90 14893 963 [some (.ref v0), some (.ref v1), some (.ref v2), some (.int v3)] [(.int s0)] M := by
  unfold f_L_law_c960 at H
  refine x_aload_n 963 2 dL_law_963 rfl rfl ?_
  refine x_aload_n 964 0 dL_law_964 rfl rfl ?_
  refine x_iload_n 965 3 dL_law_965 rfl rfl ?_
  refine x_iconst 966 (1 : Int32) dL_law_966 (by decide) ?_
  refine x_iadd 967 dL_law_967 ?_
  obtain ⟨h359, H⟩ := x_ckp H
  obtain ⟨h360, H⟩ := x_ckp H
  refine x_siald 968 dL_law_968 h359 h360 ?_
  refine x_aload_n 969 0 dL_law_969 rfl rfl ?_
  refine x_iload_n 970 3 dL_law_970 rfl rfl ?_
  refine x_iconst 971 (2 : Int32) dL_law_971 (by decide) ?_
  refine x_iadd 972 dL_law_972 ?_
  obtain ⟨h361, H⟩ := x_ckp H
  refine x_siald 973 dL_law_973 h361 h360 ?_
  obtain ⟨h362, H⟩ := x_ckp H
  obtain ⟨r364, M363, e365, H⟩ := x_bd_of H
  refine x_callV 974 105 9 [(.int (x_i M v0 (v3 + (1 : Int32)).toNatClampNeg)), (.int (x_i M v0 (v3 + (2 : Int32)).toNatClampNeg))] [(.int s0)] dL_law_974 (ct_X9_longest l e365) lk_1376 lk_1377 lk_1378 (by decide) h362 lk_94 lk_1379 ⟨cn_X9_longest, (by decide), by decide⟩ rfl (Nat.le_of_ble_eq_true rfl) (Nat.le_of_ble_eq_true rfl) (Nat.le_of_ble_eq_true rfl) (x_ri ?_)
  exact t_L_law_c974 l hκ18 H

def f_L_law_949 (κ18 : Nat → Nat → Nat → Int32 → XM → Option (Int32 × XM)) (v0 : Nat) (v1 : Nat) (v2 : Nat) (v3 : Int32) (M : XM) : Option (Int32 × XM) :=
  if x_at M v0 5 (v3 + (1 : Int32)) = true then (if v0 < 20 then (if x_at M v0 5 (v3 + (2 : Int32)) = true then (if x_tag M v1 = 8 + 10 then (x_bd (f_X8_longest v1 (x_i M v0 (v3 + (1 : Int32)).toNatClampNeg) (x_i M v0 (v3 + (2 : Int32)).toNatClampNeg) M) (f_L_law_c960 κ18 v0 v1 v2 v3)) else none) else none) else none) else none
set_option maxRecDepth 20000 in
set_option maxHeartbeats 4000000 in
theorem t_L_law_949 (l : Launch) {κ18 : Nat → Nat → Nat → Int32 → XM → Option (Int32 × XM)} {v0 : Nat} {v1 : Nat} {v2 : Nat} {v3 : Int32} {M : XM} {q : Int32 × XM} (hκ18 : ∀ (v0 : Nat) (v1 : Nat) (v2 : Nat) (v3 : Int32) (M : XM), κ18 v0 v1 v2 v3 M = some q → AW l m_L_law 33 600000 7302250 (x_Ri q) 90 14893 18 [some (.ref v0), some (.ref v1), some (.ref v2), some (.int v3)] [] M) (H : f_L_law_949 κ18 v0 v1 v2 v3 M = some q) : AW l m_L_law 33 600000 7302250 (x_Ri q) 90 14893 949 [some (.ref v0), some (.ref v1), some (.ref v2), some (.int v3)] [] M := by
  unfold f_L_law_949 at H
  refine x_aload_n 949 1 dL_law_949 rfl rfl ?_
  refine x_aload_n 950 0 dL_law_950 rfl rfl ?_
  refine x_iload_n 951 3 dL_law_951 rfl rfl ?_
  refine x_iconst 952 (1 : Int32) dL_law_952 (by decide) ?_
  refine x_iadd 953 dL_law_953 ?_
  obtain ⟨h352, H⟩ := x_ckp H
  obtain ⟨h353, H⟩ := x_ckp H
  refine x_siald 954 dL_law_954 h352 h353 ?_
  refine x_aload_n 955 0 dL_law_955 rfl rfl ?_
  refine x_iload_n 956 3 dL_law_956 rfl rfl ?_
  refine x_iconst 957 (2 : Int32) dL_law_957 (by decide) ?_
  refine x_iadd 958 dL_law_958 ?_
  obtain ⟨h354, H⟩ := x_ckp H
  refine x_siald 959 dL_law_959 h354 h353 ?_
  obtain ⟨h355, H⟩ := x_ckp H
  obtain ⟨r357, M356, e358, H⟩ := x_bd_of H
  refine x_callV 960 102 8 [(.int (x_i M v0 (v3 + (1 : Int32)).toNatClampNeg)), (.int (x_i M v0 (v3 + (2 : Int32)).toNatClampNeg))] [] dL_law_960 (ct_X8_longest l e358) lk_836 lk_837 lk_838 (by decide) h355 lk_85 lk_839 ⟨cn_X8_longest, (by decide), by decide⟩ rfl (Nat.le_of_ble_eq_true rfl) (Nat.le_of_ble_eq_true rfl) (Nat.le_of_ble_eq_true rfl) (x_ri ?_)
  exact t_L_law_c960 l hκ18 H

def f_L_law_c1007 (κ18 : Nat → Nat → Nat → Int32 → XM → Option (Int32 × XM)) (v0 : Nat) (v1 : Nat) (v2 : Nat) (v3 : Int32) (s1 : Int32) (s0 : Int32) (M : XM) : Option (Int32 × XM) :=
  if s1 = s0 then (f_L_law_1519 κ18 v0 v1 v2 v3 M) else (some ((0 : Int32), M))
set_option maxRecDepth 20000 in
set_option maxHeartbeats 4000000 in
theorem t_L_law_c1007 (l : Launch) {κ18 : Nat → Nat → Nat → Int32 → XM → Option (Int32 × XM)} {v0 : Nat} {v1 : Nat} {v2 : Nat} {v3 : Int32} {s1 : Int32} {s0 : Int32} {M : XM} {q : Int32 × XM} (hκ18 : ∀ (v0 : Nat) (v1 : Nat) (v2 : Nat) (v3 : Int32) (M : XM), κ18 v0 v1 v2 v3 M = some q → AW l m_L_law 33 600000 7302250 (x_Ri q) 90 14893 18 [some (.ref v0), some (.ref v1), some (.ref v2), some (.int v3)] [] M) (H : f_L_law_c1007 κ18 v0 v1 v2 v3 s1 s0 M = some q) : AW l m_L_law 33 600000 7302250 (x_Ri q) 90 14893 1010 [some (.ref v0), some (.ref v1), some (.ref v2), some (.int v3)] [(.int s0), (.int s1)] M := by
  unfold f_L_law_c1007 at H
  refine x_icmp_eq 1010 1519 dL_law_1010 (by decide) (fun c382 => ?_) (fun c382 => ?_)
  · replace H := x_ifp c382 H
    exact t_L_law_1519 l hκ18 H
  · replace H := x_ifn c382 H
    refine x_iconst 1013 (0 : Int32) dL_law_1013 (by decide) ?_
    cases H
    exact x_iret 1014 dL_law_1014 .boolean rfl rfl (Nat.le_of_ble_eq_true rfl) (Nat.le_of_ble_eq_true rfl) ⟨rfl, rfl⟩

def f_L_law_c993 (κ18 : Nat → Nat → Nat → Int32 → XM → Option (Int32 × XM)) (v0 : Nat) (v1 : Nat) (v2 : Nat) (v3 : Int32) (s0 : Int32) (M : XM) : Option (Int32 × XM) :=
  if x_at M v0 5 (v3 + (1 : Int32)) = true then (if v0 < 20 then (if x_at M v0 5 (v3 + (2 : Int32)) = true then (if x_tag M v2 = 9 + 10 then (x_bd (f_X9_fits v2 (x_i M v0 (v3 + (1 : Int32)).toNatClampNeg) (x_i M v0 (v3 + (2 : Int32)).toNatClampNeg) M) (f_L_law_c1007 κ18 v0 v1 v2 v3 s0)) else none) else none) else none) else none
set_option maxRecDepth 20000 in
set_option maxHeartbeats 4000000 in
theorem t_L_law_c993 (l : Launch) {κ18 : Nat → Nat → Nat → Int32 → XM → Option (Int32 × XM)} {v0 : Nat} {v1 : Nat} {v2 : Nat} {v3 : Int32} {s0 : Int32} {M : XM} {q : Int32 × XM} (hκ18 : ∀ (v0 : Nat) (v1 : Nat) (v2 : Nat) (v3 : Int32) (M : XM), κ18 v0 v1 v2 v3 M = some q → AW l m_L_law 33 600000 7302250 (x_Ri q) 90 14893 18 [some (.ref v0), some (.ref v1), some (.ref v2), some (.int v3)] [] M) (H : f_L_law_c993 κ18 v0 v1 v2 v3 s0 M = some q) : AW l m_L_law 33 600000 7302250 (x_Ri q) 90 14893 996 [some (.ref v0), some (.ref v1), some (.ref v2), some (.int v3)] [(.int s0)] M := by
  unfold f_L_law_c993 at H
  refine x_aload_n 996 2 dL_law_996 rfl rfl ?_
  refine x_aload_n 997 0 dL_law_997 rfl rfl ?_
  refine x_iload_n 998 3 dL_law_998 rfl rfl ?_
  refine x_iconst 999 (1 : Int32) dL_law_999 (by decide) ?_
  refine x_iadd 1000 dL_law_1000 ?_
  obtain ⟨h375, H⟩ := x_ckp H
  obtain ⟨h376, H⟩ := x_ckp H
  refine x_siald 1001 dL_law_1001 h375 h376 ?_
  refine x_aload_n 1002 0 dL_law_1002 rfl rfl ?_
  refine x_iload_n 1003 3 dL_law_1003 rfl rfl ?_
  refine x_iconst 1004 (2 : Int32) dL_law_1004 (by decide) ?_
  refine x_iadd 1005 dL_law_1005 ?_
  obtain ⟨h377, H⟩ := x_ckp H
  refine x_siald 1006 dL_law_1006 h377 h376 ?_
  obtain ⟨h378, H⟩ := x_ckp H
  obtain ⟨r380, M379, e381, H⟩ := x_bd_of H
  refine x_callV 1007 109 9 [(.int (x_i M v0 (v3 + (1 : Int32)).toNatClampNeg)), (.int (x_i M v0 (v3 + (2 : Int32)).toNatClampNeg))] [(.int s0)] dL_law_1007 (ct_X9_fits l e381) lk_1380 lk_1381 lk_1382 (by decide) h378 lk_94 lk_1383 ⟨cn_X9_fits, (by decide), by decide⟩ rfl (Nat.le_of_ble_eq_true rfl) (Nat.le_of_ble_eq_true rfl) (Nat.le_of_ble_eq_true rfl) (x_ri ?_)
  exact t_L_law_c1007 l hκ18 H

def f_L_law_982 (κ18 : Nat → Nat → Nat → Int32 → XM → Option (Int32 × XM)) (v0 : Nat) (v1 : Nat) (v2 : Nat) (v3 : Int32) (M : XM) : Option (Int32 × XM) :=
  if x_at M v0 5 (v3 + (1 : Int32)) = true then (if v0 < 20 then (if x_at M v0 5 (v3 + (2 : Int32)) = true then (if x_tag M v1 = 8 + 10 then (x_bd (f_X8_fits v1 (x_i M v0 (v3 + (1 : Int32)).toNatClampNeg) (x_i M v0 (v3 + (2 : Int32)).toNatClampNeg) M) (f_L_law_c993 κ18 v0 v1 v2 v3)) else none) else none) else none) else none
set_option maxRecDepth 20000 in
set_option maxHeartbeats 4000000 in
theorem t_L_law_982 (l : Launch) {κ18 : Nat → Nat → Nat → Int32 → XM → Option (Int32 × XM)} {v0 : Nat} {v1 : Nat} {v2 : Nat} {v3 : Int32} {M : XM} {q : Int32 × XM} (hκ18 : ∀ (v0 : Nat) (v1 : Nat) (v2 : Nat) (v3 : Int32) (M : XM), κ18 v0 v1 v2 v3 M = some q → AW l m_L_law 33 600000 7302250 (x_Ri q) 90 14893 18 [some (.ref v0), some (.ref v1), some (.ref v2), some (.int v3)] [] M) (H : f_L_law_982 κ18 v0 v1 v2 v3 M = some q) : AW l m_L_law 33 600000 7302250 (x_Ri q) 90 14893 982 [some (.ref v0), some (.ref v1), some (.ref v2), some (.int v3)] [] M := by
  unfold f_L_law_982 at H
  refine x_aload_n 982 1 dL_law_982 rfl rfl ?_
  refine x_aload_n 983 0 dL_law_983 rfl rfl ?_
  refine x_iload_n 984 3 dL_law_984 rfl rfl ?_
  refine x_iconst 985 (1 : Int32) dL_law_985 (by decide) ?_
  refine x_iadd 986 dL_law_986 ?_
  obtain ⟨h368, H⟩ := x_ckp H
  obtain ⟨h369, H⟩ := x_ckp H
  refine x_siald 987 dL_law_987 h368 h369 ?_
  refine x_aload_n 988 0 dL_law_988 rfl rfl ?_
  refine x_iload_n 989 3 dL_law_989 rfl rfl ?_
  refine x_iconst 990 (2 : Int32) dL_law_990 (by decide) ?_
  refine x_iadd 991 dL_law_991 ?_
  obtain ⟨h370, H⟩ := x_ckp H
  refine x_siald 992 dL_law_992 h370 h369 ?_
  obtain ⟨h371, H⟩ := x_ckp H
  obtain ⟨r373, M372, e374, H⟩ := x_bd_of H
  refine x_callV 993 106 8 [(.int (x_i M v0 (v3 + (1 : Int32)).toNatClampNeg)), (.int (x_i M v0 (v3 + (2 : Int32)).toNatClampNeg))] [] dL_law_993 (ct_X8_fits l e374) lk_850 lk_851 lk_852 (by decide) h371 lk_85 lk_853 ⟨cn_X8_fits, (by decide), by decide⟩ rfl (Nat.le_of_ble_eq_true rfl) (Nat.le_of_ble_eq_true rfl) (Nat.le_of_ble_eq_true rfl) (x_ri ?_)
  exact t_L_law_c993 l hκ18 H

def f_L_law_c1050 (κ18 : Nat → Nat → Nat → Int32 → XM → Option (Int32 × XM)) (v0 : Nat) (v1 : Nat) (v2 : Nat) (v3 : Int32) (s1 : Int32) (s0 : Int32) (M : XM) : Option (Int32 × XM) :=
  if s1 = s0 then (f_L_law_1519 κ18 v0 v1 v2 v3 M) else (some ((0 : Int32), M))
set_option maxRecDepth 20000 in
set_option maxHeartbeats 4000000 in
theorem t_L_law_c1050 (l : Launch) {κ18 : Nat → Nat → Nat → Int32 → XM → Option (Int32 × XM)} {v0 : Nat} {v1 : Nat} {v2 : Nat} {v3 : Int32} {s1 : Int32} {s0 : Int32} {M : XM} {q : Int32 × XM} (hκ18 : ∀ (v0 : Nat) (v1 : Nat) (v2 : Nat) (v3 : Int32) (M : XM), κ18 v0 v1 v2 v3 M = some q → AW l m_L_law 33 600000 7302250 (x_Ri q) 90 14893 18 [some (.ref v0), some (.ref v1), some (.ref v2), some (.int v3)] [] M) (H : f_L_law_c1050 κ18 v0 v1 v2 v3 s1 s0 M = some q) : AW l m_L_law 33 600000 7302250 (x_Ri q) 90 14893 1053 [some (.ref v0), some (.ref v1), some (.ref v2), some (.int v3)] [(.int s0), (.int s1)] M := by
  unfold f_L_law_c1050 at H
  refine x_icmp_eq 1053 1519 dL_law_1053 (by decide) (fun c400 => ?_) (fun c400 => ?_)
  · replace H := x_ifp c400 H
    exact t_L_law_1519 l hκ18 H
  · replace H := x_ifn c400 H
    refine x_iconst 1056 (0 : Int32) dL_law_1056 (by decide) ?_
    cases H
    exact x_iret 1057 dL_law_1057 .boolean rfl rfl (Nat.le_of_ble_eq_true rfl) (Nat.le_of_ble_eq_true rfl) ⟨rfl, rfl⟩

def f_L_law_c1031 (κ18 : Nat → Nat → Nat → Int32 → XM → Option (Int32 × XM)) (v0 : Nat) (v1 : Nat) (v2 : Nat) (v3 : Int32) (s0 : Int32) (M : XM) : Option (Int32 × XM) :=
  if x_at M v0 5 (v3 + (1 : Int32)) = true then (if v0 < 20 then (if x_at M v0 5 (v3 + (2 : Int32)) = true then (if x_at M v0 5 (v3 + (3 : Int32)) = true then (if x_tag M v2 = 9 + 10 then (x_bd (f_X9_judge v2 (x_i M v0 (v3 + (1 : Int32)).toNatClampNeg) (x_i M v0 (v3 + (2 : Int32)).toNatClampNeg) (x_i M v0 (v3 + (3 : Int32)).toNatClampNeg) M) (f_L_law_c1050 κ18 v0 v1 v2 v3 s0)) else none) else none) else none) else none) else none
set_option maxRecDepth 20000 in
set_option maxHeartbeats 4000000 in
theorem t_L_law_c1031 (l : Launch) {κ18 : Nat → Nat → Nat → Int32 → XM → Option (Int32 × XM)} {v0 : Nat} {v1 : Nat} {v2 : Nat} {v3 : Int32} {s0 : Int32} {M : XM} {q : Int32 × XM} (hκ18 : ∀ (v0 : Nat) (v1 : Nat) (v2 : Nat) (v3 : Int32) (M : XM), κ18 v0 v1 v2 v3 M = some q → AW l m_L_law 33 600000 7302250 (x_Ri q) 90 14893 18 [some (.ref v0), some (.ref v1), some (.ref v2), some (.int v3)] [] M) (H : f_L_law_c1031 κ18 v0 v1 v2 v3 s0 M = some q) : AW l m_L_law 33 600000 7302250 (x_Ri q) 90 14893 1034 [some (.ref v0), some (.ref v1), some (.ref v2), some (.int v3)] [(.int s0)] M := by
  unfold f_L_law_c1031 at H
  refine x_aload_n 1034 2 dL_law_1034 rfl rfl ?_
  refine x_aload_n 1035 0 dL_law_1035 rfl rfl ?_
  refine x_iload_n 1036 3 dL_law_1036 rfl rfl ?_
  refine x_iconst 1037 (1 : Int32) dL_law_1037 (by decide) ?_
  refine x_iadd 1038 dL_law_1038 ?_
  obtain ⟨h392, H⟩ := x_ckp H
  obtain ⟨h393, H⟩ := x_ckp H
  refine x_siald 1039 dL_law_1039 h392 h393 ?_
  refine x_aload_n 1040 0 dL_law_1040 rfl rfl ?_
  refine x_iload_n 1041 3 dL_law_1041 rfl rfl ?_
  refine x_iconst 1042 (2 : Int32) dL_law_1042 (by decide) ?_
  refine x_iadd 1043 dL_law_1043 ?_
  obtain ⟨h394, H⟩ := x_ckp H
  refine x_siald 1044 dL_law_1044 h394 h393 ?_
  refine x_aload_n 1045 0 dL_law_1045 rfl rfl ?_
  refine x_iload_n 1046 3 dL_law_1046 rfl rfl ?_
  refine x_iconst 1047 (3 : Int32) dL_law_1047 (by decide) ?_
  refine x_iadd 1048 dL_law_1048 ?_
  obtain ⟨h395, H⟩ := x_ckp H
  refine x_siald 1049 dL_law_1049 h395 h393 ?_
  obtain ⟨h396, H⟩ := x_ckp H
  obtain ⟨r398, M397, e399, H⟩ := x_bd_of H
  refine x_callV 1050 113 9 [(.int (x_i M v0 (v3 + (1 : Int32)).toNatClampNeg)), (.int (x_i M v0 (v3 + (2 : Int32)).toNatClampNeg)), (.int (x_i M v0 (v3 + (3 : Int32)).toNatClampNeg))] [(.int s0)] dL_law_1050 (ct_X9_judge l e399) lk_1384 lk_1385 lk_1386 (by decide) h396 lk_94 lk_1387 ⟨cn_X9_judge, (by decide), by decide⟩ rfl (Nat.le_of_ble_eq_true rfl) (Nat.le_of_ble_eq_true rfl) (Nat.le_of_ble_eq_true rfl) (x_ri ?_)
  exact t_L_law_c1050 l hκ18 H

def f_L_law_1015 (κ18 : Nat → Nat → Nat → Int32 → XM → Option (Int32 × XM)) (v0 : Nat) (v1 : Nat) (v2 : Nat) (v3 : Int32) (M : XM) : Option (Int32 × XM) :=
  if x_at M v0 5 (v3 + (1 : Int32)) = true then (if v0 < 20 then (if x_at M v0 5 (v3 + (2 : Int32)) = true then (if x_at M v0 5 (v3 + (3 : Int32)) = true then (if x_tag M v1 = 8 + 10 then (x_bd (f_X8_judge v1 (x_i M v0 (v3 + (1 : Int32)).toNatClampNeg) (x_i M v0 (v3 + (2 : Int32)).toNatClampNeg) (x_i M v0 (v3 + (3 : Int32)).toNatClampNeg) M) (f_L_law_c1031 κ18 v0 v1 v2 v3)) else none) else none) else none) else none) else none
set_option maxRecDepth 20000 in
set_option maxHeartbeats 4000000 in
theorem t_L_law_1015 (l : Launch) {κ18 : Nat → Nat → Nat → Int32 → XM → Option (Int32 × XM)} {v0 : Nat} {v1 : Nat} {v2 : Nat} {v3 : Int32} {M : XM} {q : Int32 × XM} (hκ18 : ∀ (v0 : Nat) (v1 : Nat) (v2 : Nat) (v3 : Int32) (M : XM), κ18 v0 v1 v2 v3 M = some q → AW l m_L_law 33 600000 7302250 (x_Ri q) 90 14893 18 [some (.ref v0), some (.ref v1), some (.ref v2), some (.int v3)] [] M) (H : f_L_law_1015 κ18 v0 v1 v2 v3 M = some q) : AW l m_L_law 33 600000 7302250 (x_Ri q) 90 14893 1015 [some (.ref v0), some (.ref v1), some (.ref v2), some (.int v3)] [] M := by
  unfold f_L_law_1015 at H
  refine x_aload_n 1015 1 dL_law_1015 rfl rfl ?_
  refine x_aload_n 1016 0 dL_law_1016 rfl rfl ?_
  refine x_iload_n 1017 3 dL_law_1017 rfl rfl ?_
  refine x_iconst 1018 (1 : Int32) dL_law_1018 (by decide) ?_
  refine x_iadd 1019 dL_law_1019 ?_
  obtain ⟨h384, H⟩ := x_ckp H
  obtain ⟨h385, H⟩ := x_ckp H
  refine x_siald 1020 dL_law_1020 h384 h385 ?_
  refine x_aload_n 1021 0 dL_law_1021 rfl rfl ?_
  refine x_iload_n 1022 3 dL_law_1022 rfl rfl ?_
  refine x_iconst 1023 (2 : Int32) dL_law_1023 (by decide) ?_
  refine x_iadd 1024 dL_law_1024 ?_
  obtain ⟨h386, H⟩ := x_ckp H
  refine x_siald 1025 dL_law_1025 h386 h385 ?_
  refine x_aload_n 1026 0 dL_law_1026 rfl rfl ?_
  refine x_iload_n 1027 3 dL_law_1027 rfl rfl ?_
  refine x_iconst 1028 (3 : Int32) dL_law_1028 (by decide) ?_
  refine x_iadd 1029 dL_law_1029 ?_
  obtain ⟨h387, H⟩ := x_ckp H
  refine x_siald 1030 dL_law_1030 h387 h385 ?_
  obtain ⟨h388, H⟩ := x_ckp H
  obtain ⟨r390, M389, e391, H⟩ := x_bd_of H
  refine x_callV 1031 110 8 [(.int (x_i M v0 (v3 + (1 : Int32)).toNatClampNeg)), (.int (x_i M v0 (v3 + (2 : Int32)).toNatClampNeg)), (.int (x_i M v0 (v3 + (3 : Int32)).toNatClampNeg))] [] dL_law_1031 (ct_X8_judge l e391) lk_866 lk_867 lk_868 (by decide) h388 lk_85 lk_869 ⟨cn_X8_judge, (by decide), by decide⟩ rfl (Nat.le_of_ble_eq_true rfl) (Nat.le_of_ble_eq_true rfl) (Nat.le_of_ble_eq_true rfl) (x_ri ?_)
  exact t_L_law_c1031 l hκ18 H

def f_L_law_c1093 (κ18 : Nat → Nat → Nat → Int32 → XM → Option (Int32 × XM)) (v0 : Nat) (v1 : Nat) (v2 : Nat) (v3 : Int32) (s1 : Int32) (s0 : Int32) (M : XM) : Option (Int32 × XM) :=
  if s1 = s0 then (f_L_law_1519 κ18 v0 v1 v2 v3 M) else (some ((0 : Int32), M))
set_option maxRecDepth 20000 in
set_option maxHeartbeats 4000000 in
theorem t_L_law_c1093 (l : Launch) {κ18 : Nat → Nat → Nat → Int32 → XM → Option (Int32 × XM)} {v0 : Nat} {v1 : Nat} {v2 : Nat} {v3 : Int32} {s1 : Int32} {s0 : Int32} {M : XM} {q : Int32 × XM} (hκ18 : ∀ (v0 : Nat) (v1 : Nat) (v2 : Nat) (v3 : Int32) (M : XM), κ18 v0 v1 v2 v3 M = some q → AW l m_L_law 33 600000 7302250 (x_Ri q) 90 14893 18 [some (.ref v0), some (.ref v1), some (.ref v2), some (.int v3)] [] M) (H : f_L_law_c1093 κ18 v0 v1 v2 v3 s1 s0 M = some q) : AW l m_L_law 33 600000 7302250 (x_Ri q) 90 14893 1096 [some (.ref v0), some (.ref v1), some (.ref v2), some (.int v3)] [(.int s0), (.int s1)] M := by
  unfold f_L_law_c1093 at H
  refine x_icmp_eq 1096 1519 dL_law_1096 (by decide) (fun c418 => ?_) (fun c418 => ?_)
  · replace H := x_ifp c418 H
    exact t_L_law_1519 l hκ18 H
  · replace H := x_ifn c418 H
    refine x_iconst 1099 (0 : Int32) dL_law_1099 (by decide) ?_
    cases H
    exact x_iret 1100 dL_law_1100 .boolean rfl rfl (Nat.le_of_ble_eq_true rfl) (Nat.le_of_ble_eq_true rfl) ⟨rfl, rfl⟩

def f_L_law_c1074 (κ18 : Nat → Nat → Nat → Int32 → XM → Option (Int32 × XM)) (v0 : Nat) (v1 : Nat) (v2 : Nat) (v3 : Int32) (s0 : Int32) (M : XM) : Option (Int32 × XM) :=
  if x_at M v0 5 (v3 + (1 : Int32)) = true then (if v0 < 20 then (if x_at M v0 5 (v3 + (2 : Int32)) = true then (if x_at M v0 5 (v3 + (3 : Int32)) = true then (if x_tag M v2 = 9 + 10 then (x_bd (f_X9_breaks v2 (x_i M v0 (v3 + (1 : Int32)).toNatClampNeg) (x_i M v0 (v3 + (2 : Int32)).toNatClampNeg) (x_i M v0 (v3 + (3 : Int32)).toNatClampNeg) M) (f_L_law_c1093 κ18 v0 v1 v2 v3 s0)) else none) else none) else none) else none) else none
set_option maxRecDepth 20000 in
set_option maxHeartbeats 4000000 in
theorem t_L_law_c1074 (l : Launch) {κ18 : Nat → Nat → Nat → Int32 → XM → Option (Int32 × XM)} {v0 : Nat} {v1 : Nat} {v2 : Nat} {v3 : Int32} {s0 : Int32} {M : XM} {q : Int32 × XM} (hκ18 : ∀ (v0 : Nat) (v1 : Nat) (v2 : Nat) (v3 : Int32) (M : XM), κ18 v0 v1 v2 v3 M = some q → AW l m_L_law 33 600000 7302250 (x_Ri q) 90 14893 18 [some (.ref v0), some (.ref v1), some (.ref v2), some (.int v3)] [] M) (H : f_L_law_c1074 κ18 v0 v1 v2 v3 s0 M = some q) : AW l m_L_law 33 600000 7302250 (x_Ri q) 90 14893 1077 [some (.ref v0), some (.ref v1), some (.ref v2), some (.int v3)] [(.int s0)] M := by
  unfold f_L_law_c1074 at H
  refine x_aload_n 1077 2 dL_law_1077 rfl rfl ?_
  refine x_aload_n 1078 0 dL_law_1078 rfl rfl ?_
  refine x_iload_n 1079 3 dL_law_1079 rfl rfl ?_
  refine x_iconst 1080 (1 : Int32) dL_law_1080 (by decide) ?_
  refine x_iadd 1081 dL_law_1081 ?_
  obtain ⟨h410, H⟩ := x_ckp H
  obtain ⟨h411, H⟩ := x_ckp H
  refine x_siald 1082 dL_law_1082 h410 h411 ?_
  refine x_aload_n 1083 0 dL_law_1083 rfl rfl ?_
  refine x_iload_n 1084 3 dL_law_1084 rfl rfl ?_
  refine x_iconst 1085 (2 : Int32) dL_law_1085 (by decide) ?_
  refine x_iadd 1086 dL_law_1086 ?_
  obtain ⟨h412, H⟩ := x_ckp H
  refine x_siald 1087 dL_law_1087 h412 h411 ?_
  refine x_aload_n 1088 0 dL_law_1088 rfl rfl ?_
  refine x_iload_n 1089 3 dL_law_1089 rfl rfl ?_
  refine x_iconst 1090 (3 : Int32) dL_law_1090 (by decide) ?_
  refine x_iadd 1091 dL_law_1091 ?_
  obtain ⟨h413, H⟩ := x_ckp H
  refine x_siald 1092 dL_law_1092 h413 h411 ?_
  obtain ⟨h414, H⟩ := x_ckp H
  obtain ⟨r416, M415, e417, H⟩ := x_bd_of H
  refine x_callV 1093 117 9 [(.int (x_i M v0 (v3 + (1 : Int32)).toNatClampNeg)), (.int (x_i M v0 (v3 + (2 : Int32)).toNatClampNeg)), (.int (x_i M v0 (v3 + (3 : Int32)).toNatClampNeg))] [(.int s0)] dL_law_1093 (ct_X9_breaks l e417) lk_1396 lk_1397 lk_1398 (by decide) h414 lk_94 lk_1399 ⟨cn_X9_breaks, (by decide), by decide⟩ rfl (Nat.le_of_ble_eq_true rfl) (Nat.le_of_ble_eq_true rfl) (Nat.le_of_ble_eq_true rfl) (x_ri ?_)
  exact t_L_law_c1093 l hκ18 H

def f_L_law_1058 (κ18 : Nat → Nat → Nat → Int32 → XM → Option (Int32 × XM)) (v0 : Nat) (v1 : Nat) (v2 : Nat) (v3 : Int32) (M : XM) : Option (Int32 × XM) :=
  if x_at M v0 5 (v3 + (1 : Int32)) = true then (if v0 < 20 then (if x_at M v0 5 (v3 + (2 : Int32)) = true then (if x_at M v0 5 (v3 + (3 : Int32)) = true then (if x_tag M v1 = 8 + 10 then (x_bd (f_X8_breaks v1 (x_i M v0 (v3 + (1 : Int32)).toNatClampNeg) (x_i M v0 (v3 + (2 : Int32)).toNatClampNeg) (x_i M v0 (v3 + (3 : Int32)).toNatClampNeg) M) (f_L_law_c1074 κ18 v0 v1 v2 v3)) else none) else none) else none) else none) else none
set_option maxRecDepth 20000 in
set_option maxHeartbeats 4000000 in
theorem t_L_law_1058 (l : Launch) {κ18 : Nat → Nat → Nat → Int32 → XM → Option (Int32 × XM)} {v0 : Nat} {v1 : Nat} {v2 : Nat} {v3 : Int32} {M : XM} {q : Int32 × XM} (hκ18 : ∀ (v0 : Nat) (v1 : Nat) (v2 : Nat) (v3 : Int32) (M : XM), κ18 v0 v1 v2 v3 M = some q → AW l m_L_law 33 600000 7302250 (x_Ri q) 90 14893 18 [some (.ref v0), some (.ref v1), some (.ref v2), some (.int v3)] [] M) (H : f_L_law_1058 κ18 v0 v1 v2 v3 M = some q) : AW l m_L_law 33 600000 7302250 (x_Ri q) 90 14893 1058 [some (.ref v0), some (.ref v1), some (.ref v2), some (.int v3)] [] M := by
  unfold f_L_law_1058 at H
  refine x_aload_n 1058 1 dL_law_1058 rfl rfl ?_
  refine x_aload_n 1059 0 dL_law_1059 rfl rfl ?_
  refine x_iload_n 1060 3 dL_law_1060 rfl rfl ?_
  refine x_iconst 1061 (1 : Int32) dL_law_1061 (by decide) ?_
  refine x_iadd 1062 dL_law_1062 ?_
  obtain ⟨h402, H⟩ := x_ckp H
  obtain ⟨h403, H⟩ := x_ckp H
  refine x_siald 1063 dL_law_1063 h402 h403 ?_
  refine x_aload_n 1064 0 dL_law_1064 rfl rfl ?_
  refine x_iload_n 1065 3 dL_law_1065 rfl rfl ?_
  refine x_iconst 1066 (2 : Int32) dL_law_1066 (by decide) ?_
  refine x_iadd 1067 dL_law_1067 ?_
  obtain ⟨h404, H⟩ := x_ckp H
  refine x_siald 1068 dL_law_1068 h404 h403 ?_
  refine x_aload_n 1069 0 dL_law_1069 rfl rfl ?_
  refine x_iload_n 1070 3 dL_law_1070 rfl rfl ?_
  refine x_iconst 1071 (3 : Int32) dL_law_1071 (by decide) ?_
  refine x_iadd 1072 dL_law_1072 ?_
  obtain ⟨h405, H⟩ := x_ckp H
  refine x_siald 1073 dL_law_1073 h405 h403 ?_
  obtain ⟨h406, H⟩ := x_ckp H
  obtain ⟨r408, M407, e409, H⟩ := x_bd_of H
  refine x_callV 1074 114 8 [(.int (x_i M v0 (v3 + (1 : Int32)).toNatClampNeg)), (.int (x_i M v0 (v3 + (2 : Int32)).toNatClampNeg)), (.int (x_i M v0 (v3 + (3 : Int32)).toNatClampNeg))] [] dL_law_1074 (ct_X8_breaks l e409) lk_880 lk_881 lk_882 (by decide) h406 lk_85 lk_883 ⟨cn_X8_breaks, (by decide), by decide⟩ rfl (Nat.le_of_ble_eq_true rfl) (Nat.le_of_ble_eq_true rfl) (Nat.le_of_ble_eq_true rfl) (x_ri ?_)
  exact t_L_law_c1074 l hκ18 H

def f_L_law_c1126 (κ18 : Nat → Nat → Nat → Int32 → XM → Option (Int32 × XM)) (v0 : Nat) (v1 : Nat) (v2 : Nat) (v3 : Int32) (s1 : Int32) (s0 : Int32) (M : XM) : Option (Int32 × XM) :=
  if s1 = s0 then (f_L_law_1519 κ18 v0 v1 v2 v3 M) else (some ((0 : Int32), M))
set_option maxRecDepth 20000 in
set_option maxHeartbeats 4000000 in
theorem t_L_law_c1126 (l : Launch) {κ18 : Nat → Nat → Nat → Int32 → XM → Option (Int32 × XM)} {v0 : Nat} {v1 : Nat} {v2 : Nat} {v3 : Int32} {s1 : Int32} {s0 : Int32} {M : XM} {q : Int32 × XM} (hκ18 : ∀ (v0 : Nat) (v1 : Nat) (v2 : Nat) (v3 : Int32) (M : XM), κ18 v0 v1 v2 v3 M = some q → AW l m_L_law 33 600000 7302250 (x_Ri q) 90 14893 18 [some (.ref v0), some (.ref v1), some (.ref v2), some (.int v3)] [] M) (H : f_L_law_c1126 κ18 v0 v1 v2 v3 s1 s0 M = some q) : AW l m_L_law 33 600000 7302250 (x_Ri q) 90 14893 1129 [some (.ref v0), some (.ref v1), some (.ref v2), some (.int v3)] [(.int s0), (.int s1)] M := by
  unfold f_L_law_c1126 at H
  refine x_icmp_eq 1129 1519 dL_law_1129 (by decide) (fun c434 => ?_) (fun c434 => ?_)
  · replace H := x_ifp c434 H
    exact t_L_law_1519 l hκ18 H
  · replace H := x_ifn c434 H
    refine x_iconst 1132 (0 : Int32) dL_law_1132 (by decide) ?_
    cases H
    exact x_iret 1133 dL_law_1133 .boolean rfl rfl (Nat.le_of_ble_eq_true rfl) (Nat.le_of_ble_eq_true rfl) ⟨rfl, rfl⟩

def f_L_law_c1112 (κ18 : Nat → Nat → Nat → Int32 → XM → Option (Int32 × XM)) (v0 : Nat) (v1 : Nat) (v2 : Nat) (v3 : Int32) (s0 : Int32) (M : XM) : Option (Int32 × XM) :=
  if x_at M v0 5 (v3 + (1 : Int32)) = true then (if v0 < 20 then (if x_at M v0 5 (v3 + (2 : Int32)) = true then (if x_tag M v2 = 9 + 10 then (x_bd (f_X9_quickest v2 (x_i M v0 (v3 + (1 : Int32)).toNatClampNeg) (x_i M v0 (v3 + (2 : Int32)).toNatClampNeg) M) (f_L_law_c1126 κ18 v0 v1 v2 v3 s0)) else none) else none) else none) else none
set_option maxRecDepth 20000 in
set_option maxHeartbeats 4000000 in
theorem t_L_law_c1112 (l : Launch) {κ18 : Nat → Nat → Nat → Int32 → XM → Option (Int32 × XM)} {v0 : Nat} {v1 : Nat} {v2 : Nat} {v3 : Int32} {s0 : Int32} {M : XM} {q : Int32 × XM} (hκ18 : ∀ (v0 : Nat) (v1 : Nat) (v2 : Nat) (v3 : Int32) (M : XM), κ18 v0 v1 v2 v3 M = some q → AW l m_L_law 33 600000 7302250 (x_Ri q) 90 14893 18 [some (.ref v0), some (.ref v1), some (.ref v2), some (.int v3)] [] M) (H : f_L_law_c1112 κ18 v0 v1 v2 v3 s0 M = some q) : AW l m_L_law 33 600000 7302250 (x_Ri q) 90 14893 1115 [some (.ref v0), some (.ref v1), some (.ref v2), some (.int v3)] [(.int s0)] M := by
  unfold f_L_law_c1112 at H
  refine x_aload_n 1115 2 dL_law_1115 rfl rfl ?_
  refine x_aload_n 1116 0 dL_law_1116 rfl rfl ?_
  refine x_iload_n 1117 3 dL_law_1117 rfl rfl ?_
  refine x_iconst 1118 (1 : Int32) dL_law_1118 (by decide) ?_
  refine x_iadd 1119 dL_law_1119 ?_
  obtain ⟨h427, H⟩ := x_ckp H
  obtain ⟨h428, H⟩ := x_ckp H
  refine x_siald 1120 dL_law_1120 h427 h428 ?_
  refine x_aload_n 1121 0 dL_law_1121 rfl rfl ?_
  refine x_iload_n 1122 3 dL_law_1122 rfl rfl ?_
  refine x_iconst 1123 (2 : Int32) dL_law_1123 (by decide) ?_
  refine x_iadd 1124 dL_law_1124 ?_
  obtain ⟨h429, H⟩ := x_ckp H
  refine x_siald 1125 dL_law_1125 h429 h428 ?_
  obtain ⟨h430, H⟩ := x_ckp H
  obtain ⟨r432, M431, e433, H⟩ := x_bd_of H
  refine x_callV 1126 121 9 [(.int (x_i M v0 (v3 + (1 : Int32)).toNatClampNeg)), (.int (x_i M v0 (v3 + (2 : Int32)).toNatClampNeg))] [(.int s0)] dL_law_1126 (ct_X9_quickest l e433) lk_1400 lk_1401 lk_1402 (by decide) h430 lk_94 lk_1403 ⟨cn_X9_quickest, (by decide), by decide⟩ rfl (Nat.le_of_ble_eq_true rfl) (Nat.le_of_ble_eq_true rfl) (Nat.le_of_ble_eq_true rfl) (x_ri ?_)
  exact t_L_law_c1126 l hκ18 H

def f_L_law_1101 (κ18 : Nat → Nat → Nat → Int32 → XM → Option (Int32 × XM)) (v0 : Nat) (v1 : Nat) (v2 : Nat) (v3 : Int32) (M : XM) : Option (Int32 × XM) :=
  if x_at M v0 5 (v3 + (1 : Int32)) = true then (if v0 < 20 then (if x_at M v0 5 (v3 + (2 : Int32)) = true then (if x_tag M v1 = 8 + 10 then (x_bd (f_X8_quickest v1 (x_i M v0 (v3 + (1 : Int32)).toNatClampNeg) (x_i M v0 (v3 + (2 : Int32)).toNatClampNeg) M) (f_L_law_c1112 κ18 v0 v1 v2 v3)) else none) else none) else none) else none
set_option maxRecDepth 20000 in
set_option maxHeartbeats 4000000 in
theorem t_L_law_1101 (l : Launch) {κ18 : Nat → Nat → Nat → Int32 → XM → Option (Int32 × XM)} {v0 : Nat} {v1 : Nat} {v2 : Nat} {v3 : Int32} {M : XM} {q : Int32 × XM} (hκ18 : ∀ (v0 : Nat) (v1 : Nat) (v2 : Nat) (v3 : Int32) (M : XM), κ18 v0 v1 v2 v3 M = some q → AW l m_L_law 33 600000 7302250 (x_Ri q) 90 14893 18 [some (.ref v0), some (.ref v1), some (.ref v2), some (.int v3)] [] M) (H : f_L_law_1101 κ18 v0 v1 v2 v3 M = some q) : AW l m_L_law 33 600000 7302250 (x_Ri q) 90 14893 1101 [some (.ref v0), some (.ref v1), some (.ref v2), some (.int v3)] [] M := by
  unfold f_L_law_1101 at H
  refine x_aload_n 1101 1 dL_law_1101 rfl rfl ?_
  refine x_aload_n 1102 0 dL_law_1102 rfl rfl ?_
  refine x_iload_n 1103 3 dL_law_1103 rfl rfl ?_
  refine x_iconst 1104 (1 : Int32) dL_law_1104 (by decide) ?_
  refine x_iadd 1105 dL_law_1105 ?_
  obtain ⟨h420, H⟩ := x_ckp H
  obtain ⟨h421, H⟩ := x_ckp H
  refine x_siald 1106 dL_law_1106 h420 h421 ?_
  refine x_aload_n 1107 0 dL_law_1107 rfl rfl ?_
  refine x_iload_n 1108 3 dL_law_1108 rfl rfl ?_
  refine x_iconst 1109 (2 : Int32) dL_law_1109 (by decide) ?_
  refine x_iadd 1110 dL_law_1110 ?_
  obtain ⟨h422, H⟩ := x_ckp H
  refine x_siald 1111 dL_law_1111 h422 h421 ?_
  obtain ⟨h423, H⟩ := x_ckp H
  obtain ⟨r425, M424, e426, H⟩ := x_bd_of H
  refine x_callV 1112 118 8 [(.int (x_i M v0 (v3 + (1 : Int32)).toNatClampNeg)), (.int (x_i M v0 (v3 + (2 : Int32)).toNatClampNeg))] [] dL_law_1112 (ct_X8_quickest l e426) lk_884 lk_885 lk_886 (by decide) h423 lk_85 lk_887 ⟨cn_X8_quickest, (by decide), by decide⟩ rfl (Nat.le_of_ble_eq_true rfl) (Nat.le_of_ble_eq_true rfl) (Nat.le_of_ble_eq_true rfl) (x_ri ?_)
  exact t_L_law_c1112 l hκ18 H

def f_L_law_c1149 (κ18 : Nat → Nat → Nat → Int32 → XM → Option (Int32 × XM)) (v0 : Nat) (v1 : Nat) (v2 : Nat) (v3 : Int32) (s1 : Int32) (s0 : Int32) (M : XM) : Option (Int32 × XM) :=
  if s1 = s0 then (f_L_law_1519 κ18 v0 v1 v2 v3 M) else (some ((0 : Int32), M))
set_option maxRecDepth 20000 in
set_option maxHeartbeats 4000000 in
theorem t_L_law_c1149 (l : Launch) {κ18 : Nat → Nat → Nat → Int32 → XM → Option (Int32 × XM)} {v0 : Nat} {v1 : Nat} {v2 : Nat} {v3 : Int32} {s1 : Int32} {s0 : Int32} {M : XM} {q : Int32 × XM} (hκ18 : ∀ (v0 : Nat) (v1 : Nat) (v2 : Nat) (v3 : Int32) (M : XM), κ18 v0 v1 v2 v3 M = some q → AW l m_L_law 33 600000 7302250 (x_Ri q) 90 14893 18 [some (.ref v0), some (.ref v1), some (.ref v2), some (.int v3)] [] M) (H : f_L_law_c1149 κ18 v0 v1 v2 v3 s1 s0 M = some q) : AW l m_L_law 33 600000 7302250 (x_Ri q) 90 14893 1152 [some (.ref v0), some (.ref v1), some (.ref v2), some (.int v3)] [(.int s0), (.int s1)] M := by
  unfold f_L_law_c1149 at H
  refine x_icmp_eq 1152 1519 dL_law_1152 (by decide) (fun c448 => ?_) (fun c448 => ?_)
  · replace H := x_ifp c448 H
    exact t_L_law_1519 l hκ18 H
  · replace H := x_ifn c448 H
    refine x_iconst 1155 (0 : Int32) dL_law_1155 (by decide) ?_
    cases H
    exact x_iret 1156 dL_law_1156 .boolean rfl rfl (Nat.le_of_ble_eq_true rfl) (Nat.le_of_ble_eq_true rfl) ⟨rfl, rfl⟩

def f_L_law_c1140 (κ18 : Nat → Nat → Nat → Int32 → XM → Option (Int32 × XM)) (v0 : Nat) (v1 : Nat) (v2 : Nat) (v3 : Int32) (s0 : Int32) (M : XM) : Option (Int32 × XM) :=
  if x_at M v0 5 (v3 + (1 : Int32)) = true then (if v0 < 20 then (if x_tag M v2 = 9 + 10 then (x_bd (f_X9_surest v2 (x_i M v0 (v3 + (1 : Int32)).toNatClampNeg) M) (f_L_law_c1149 κ18 v0 v1 v2 v3 s0)) else none) else none) else none
set_option maxRecDepth 20000 in
set_option maxHeartbeats 4000000 in
theorem t_L_law_c1140 (l : Launch) {κ18 : Nat → Nat → Nat → Int32 → XM → Option (Int32 × XM)} {v0 : Nat} {v1 : Nat} {v2 : Nat} {v3 : Int32} {s0 : Int32} {M : XM} {q : Int32 × XM} (hκ18 : ∀ (v0 : Nat) (v1 : Nat) (v2 : Nat) (v3 : Int32) (M : XM), κ18 v0 v1 v2 v3 M = some q → AW l m_L_law 33 600000 7302250 (x_Ri q) 90 14893 18 [some (.ref v0), some (.ref v1), some (.ref v2), some (.int v3)] [] M) (H : f_L_law_c1140 κ18 v0 v1 v2 v3 s0 M = some q) : AW l m_L_law 33 600000 7302250 (x_Ri q) 90 14893 1143 [some (.ref v0), some (.ref v1), some (.ref v2), some (.int v3)] [(.int s0)] M := by
  unfold f_L_law_c1140 at H
  refine x_aload_n 1143 2 dL_law_1143 rfl rfl ?_
  refine x_aload_n 1144 0 dL_law_1144 rfl rfl ?_
  refine x_iload_n 1145 3 dL_law_1145 rfl rfl ?_
  refine x_iconst 1146 (1 : Int32) dL_law_1146 (by decide) ?_
  refine x_iadd 1147 dL_law_1147 ?_
  obtain ⟨h442, H⟩ := x_ckp H
  obtain ⟨h443, H⟩ := x_ckp H
  refine x_siald 1148 dL_law_1148 h442 h443 ?_
  obtain ⟨h444, H⟩ := x_ckp H
  obtain ⟨r446, M445, e447, H⟩ := x_bd_of H
  refine x_callV 1149 125 9 [(.int (x_i M v0 (v3 + (1 : Int32)).toNatClampNeg))] [(.int s0)] dL_law_1149 (ct_X9_surest l e447) lk_1364 lk_1365 lk_1366 (by decide) h444 lk_94 lk_1367 ⟨cn_X9_surest, (by decide), by decide⟩ rfl (Nat.le_of_ble_eq_true rfl) (Nat.le_of_ble_eq_true rfl) (Nat.le_of_ble_eq_true rfl) (x_ri ?_)
  exact t_L_law_c1149 l hκ18 H

def f_L_law_1134 (κ18 : Nat → Nat → Nat → Int32 → XM → Option (Int32 × XM)) (v0 : Nat) (v1 : Nat) (v2 : Nat) (v3 : Int32) (M : XM) : Option (Int32 × XM) :=
  if x_at M v0 5 (v3 + (1 : Int32)) = true then (if v0 < 20 then (if x_tag M v1 = 8 + 10 then (x_bd (f_X8_surest v1 (x_i M v0 (v3 + (1 : Int32)).toNatClampNeg) M) (f_L_law_c1140 κ18 v0 v1 v2 v3)) else none) else none) else none
set_option maxRecDepth 20000 in
set_option maxHeartbeats 4000000 in
theorem t_L_law_1134 (l : Launch) {κ18 : Nat → Nat → Nat → Int32 → XM → Option (Int32 × XM)} {v0 : Nat} {v1 : Nat} {v2 : Nat} {v3 : Int32} {M : XM} {q : Int32 × XM} (hκ18 : ∀ (v0 : Nat) (v1 : Nat) (v2 : Nat) (v3 : Int32) (M : XM), κ18 v0 v1 v2 v3 M = some q → AW l m_L_law 33 600000 7302250 (x_Ri q) 90 14893 18 [some (.ref v0), some (.ref v1), some (.ref v2), some (.int v3)] [] M) (H : f_L_law_1134 κ18 v0 v1 v2 v3 M = some q) : AW l m_L_law 33 600000 7302250 (x_Ri q) 90 14893 1134 [some (.ref v0), some (.ref v1), some (.ref v2), some (.int v3)] [] M := by
  unfold f_L_law_1134 at H
  refine x_aload_n 1134 1 dL_law_1134 rfl rfl ?_
  refine x_aload_n 1135 0 dL_law_1135 rfl rfl ?_
  refine x_iload_n 1136 3 dL_law_1136 rfl rfl ?_
  refine x_iconst 1137 (1 : Int32) dL_law_1137 (by decide) ?_
  refine x_iadd 1138 dL_law_1138 ?_
  obtain ⟨h436, H⟩ := x_ckp H
  obtain ⟨h437, H⟩ := x_ckp H
  refine x_siald 1139 dL_law_1139 h436 h437 ?_
  obtain ⟨h438, H⟩ := x_ckp H
  obtain ⟨r440, M439, e441, H⟩ := x_bd_of H
  refine x_callV 1140 122 8 [(.int (x_i M v0 (v3 + (1 : Int32)).toNatClampNeg))] [] dL_law_1140 (ct_X8_surest l e441) lk_888 lk_889 lk_890 (by decide) h438 lk_85 lk_891 ⟨cn_X8_surest, (by decide), by decide⟩ rfl (Nat.le_of_ble_eq_true rfl) (Nat.le_of_ble_eq_true rfl) (Nat.le_of_ble_eq_true rfl) (x_ri ?_)
  exact t_L_law_c1140 l hκ18 H

def f_L_law_c1212 (κ18 : Nat → Nat → Nat → Int32 → XM → Option (Int32 × XM)) (v0 : Nat) (v1 : Nat) (v2 : Nat) (v3 : Int32) (s1 : Int32) (s0 : Int32) (M : XM) : Option (Int32 × XM) :=
  if s1 = s0 then (f_L_law_1519 κ18 v0 v1 v2 v3 M) else (some ((0 : Int32), M))
set_option maxRecDepth 20000 in
set_option maxHeartbeats 4000000 in
theorem t_L_law_c1212 (l : Launch) {κ18 : Nat → Nat → Nat → Int32 → XM → Option (Int32 × XM)} {v0 : Nat} {v1 : Nat} {v2 : Nat} {v3 : Int32} {s1 : Int32} {s0 : Int32} {M : XM} {q : Int32 × XM} (hκ18 : ∀ (v0 : Nat) (v1 : Nat) (v2 : Nat) (v3 : Int32) (M : XM), κ18 v0 v1 v2 v3 M = some q → AW l m_L_law 33 600000 7302250 (x_Ri q) 90 14893 18 [some (.ref v0), some (.ref v1), some (.ref v2), some (.int v3)] [] M) (H : f_L_law_c1212 κ18 v0 v1 v2 v3 s1 s0 M = some q) : AW l m_L_law 33 600000 7302250 (x_Ri q) 90 14893 1215 [some (.ref v0), some (.ref v1), some (.ref v2), some (.int v3)] [(.int s0), (.int s1)] M := by
  unfold f_L_law_c1212 at H
  refine x_icmp_eq 1215 1519 dL_law_1215 (by decide) (fun c470 => ?_) (fun c470 => ?_)
  · replace H := x_ifp c470 H
    exact t_L_law_1519 l hκ18 H
  · replace H := x_ifn c470 H
    refine x_iconst 1218 (0 : Int32) dL_law_1218 (by decide) ?_
    cases H
    exact x_iret 1219 dL_law_1219 .boolean rfl rfl (Nat.le_of_ble_eq_true rfl) (Nat.le_of_ble_eq_true rfl) ⟨rfl, rfl⟩

def f_L_law_c1183 (κ18 : Nat → Nat → Nat → Int32 → XM → Option (Int32 × XM)) (v0 : Nat) (v1 : Nat) (v2 : Nat) (v3 : Int32) (s0 : Int32) (M : XM) : Option (Int32 × XM) :=
  if x_at M v0 5 (v3 + (1 : Int32)) = true then (if v0 < 20 then (if x_at M v0 5 (v3 + (2 : Int32)) = true then (if x_at M v0 5 (v3 + (3 : Int32)) = true then (if x_at M v0 5 (v3 + (4 : Int32)) = true then (if x_at M v0 5 (v3 + (5 : Int32)) = true then (if x_tag M v2 = 9 + 10 then (x_bd (f_X9_parted v2 (x_i M v0 (v3 + (1 : Int32)).toNatClampNeg) (x_i M v0 (v3 + (2 : Int32)).toNatClampNeg) (x_i M v0 (v3 + (3 : Int32)).toNatClampNeg) (x_i M v0 (v3 + (4 : Int32)).toNatClampNeg) (x_i M v0 (v3 + (5 : Int32)).toNatClampNeg) M) (f_L_law_c1212 κ18 v0 v1 v2 v3 s0)) else none) else none) else none) else none) else none) else none) else none
set_option maxRecDepth 20000 in
set_option maxHeartbeats 4000000 in
theorem t_L_law_c1183 (l : Launch) {κ18 : Nat → Nat → Nat → Int32 → XM → Option (Int32 × XM)} {v0 : Nat} {v1 : Nat} {v2 : Nat} {v3 : Int32} {s0 : Int32} {M : XM} {q : Int32 × XM} (hκ18 : ∀ (v0 : Nat) (v1 : Nat) (v2 : Nat) (v3 : Int32) (M : XM), κ18 v0 v1 v2 v3 M = some q → AW l m_L_law 33 600000 7302250 (x_Ri q) 90 14893 18 [some (.ref v0), some (.ref v1), some (.ref v2), some (.int v3)] [] M) (H : f_L_law_c1183 κ18 v0 v1 v2 v3 s0 M = some q) : AW l m_L_law 33 600000 7302250 (x_Ri q) 90 14893 1186 [some (.ref v0), some (.ref v1), some (.ref v2), some (.int v3)] [(.int s0)] M := by
  unfold f_L_law_c1183 at H
  refine x_aload_n 1186 2 dL_law_1186 rfl rfl ?_
  refine x_aload_n 1187 0 dL_law_1187 rfl rfl ?_
  refine x_iload_n 1188 3 dL_law_1188 rfl rfl ?_
  refine x_iconst 1189 (1 : Int32) dL_law_1189 (by decide) ?_
  refine x_iadd 1190 dL_law_1190 ?_
  obtain ⟨h460, H⟩ := x_ckp H
  obtain ⟨h461, H⟩ := x_ckp H
  refine x_siald 1191 dL_law_1191 h460 h461 ?_
  refine x_aload_n 1192 0 dL_law_1192 rfl rfl ?_
  refine x_iload_n 1193 3 dL_law_1193 rfl rfl ?_
  refine x_iconst 1194 (2 : Int32) dL_law_1194 (by decide) ?_
  refine x_iadd 1195 dL_law_1195 ?_
  obtain ⟨h462, H⟩ := x_ckp H
  refine x_siald 1196 dL_law_1196 h462 h461 ?_
  refine x_aload_n 1197 0 dL_law_1197 rfl rfl ?_
  refine x_iload_n 1198 3 dL_law_1198 rfl rfl ?_
  refine x_iconst 1199 (3 : Int32) dL_law_1199 (by decide) ?_
  refine x_iadd 1200 dL_law_1200 ?_
  obtain ⟨h463, H⟩ := x_ckp H
  refine x_siald 1201 dL_law_1201 h463 h461 ?_
  refine x_aload_n 1202 0 dL_law_1202 rfl rfl ?_
  refine x_iload_n 1203 3 dL_law_1203 rfl rfl ?_
  refine x_iconst 1204 (4 : Int32) dL_law_1204 (by decide) ?_
  refine x_iadd 1205 dL_law_1205 ?_
  obtain ⟨h464, H⟩ := x_ckp H
  refine x_siald 1206 dL_law_1206 h464 h461 ?_
  refine x_aload_n 1207 0 dL_law_1207 rfl rfl ?_
  refine x_iload_n 1208 3 dL_law_1208 rfl rfl ?_
  refine x_iconst 1209 (5 : Int32) dL_law_1209 (by decide) ?_
  refine x_iadd 1210 dL_law_1210 ?_
  obtain ⟨h465, H⟩ := x_ckp H
  refine x_siald 1211 dL_law_1211 h465 h461 ?_
  obtain ⟨h466, H⟩ := x_ckp H
  obtain ⟨r468, M467, e469, H⟩ := x_bd_of H
  refine x_callV 1212 129 9 [(.int (x_i M v0 (v3 + (1 : Int32)).toNatClampNeg)), (.int (x_i M v0 (v3 + (2 : Int32)).toNatClampNeg)), (.int (x_i M v0 (v3 + (3 : Int32)).toNatClampNeg)), (.int (x_i M v0 (v3 + (4 : Int32)).toNatClampNeg)), (.int (x_i M v0 (v3 + (5 : Int32)).toNatClampNeg))] [(.int s0)] dL_law_1212 (ct_X9_parted l e469) lk_1404 lk_1405 lk_1406 (by decide) h466 lk_94 lk_1407 ⟨cn_X9_parted, (by decide), by decide⟩ rfl (Nat.le_of_ble_eq_true rfl) (Nat.le_of_ble_eq_true rfl) (Nat.le_of_ble_eq_true rfl) (x_ri ?_)
  exact t_L_law_c1212 l hκ18 H

def f_L_law_1157 (κ18 : Nat → Nat → Nat → Int32 → XM → Option (Int32 × XM)) (v0 : Nat) (v1 : Nat) (v2 : Nat) (v3 : Int32) (M : XM) : Option (Int32 × XM) :=
  if x_at M v0 5 (v3 + (1 : Int32)) = true then (if v0 < 20 then (if x_at M v0 5 (v3 + (2 : Int32)) = true then (if x_at M v0 5 (v3 + (3 : Int32)) = true then (if x_at M v0 5 (v3 + (4 : Int32)) = true then (if x_at M v0 5 (v3 + (5 : Int32)) = true then (if x_tag M v1 = 8 + 10 then (x_bd (f_X8_parted v1 (x_i M v0 (v3 + (1 : Int32)).toNatClampNeg) (x_i M v0 (v3 + (2 : Int32)).toNatClampNeg) (x_i M v0 (v3 + (3 : Int32)).toNatClampNeg) (x_i M v0 (v3 + (4 : Int32)).toNatClampNeg) (x_i M v0 (v3 + (5 : Int32)).toNatClampNeg) M) (f_L_law_c1183 κ18 v0 v1 v2 v3)) else none) else none) else none) else none) else none) else none) else none
set_option maxRecDepth 20000 in
set_option maxHeartbeats 4000000 in
theorem t_L_law_1157 (l : Launch) {κ18 : Nat → Nat → Nat → Int32 → XM → Option (Int32 × XM)} {v0 : Nat} {v1 : Nat} {v2 : Nat} {v3 : Int32} {M : XM} {q : Int32 × XM} (hκ18 : ∀ (v0 : Nat) (v1 : Nat) (v2 : Nat) (v3 : Int32) (M : XM), κ18 v0 v1 v2 v3 M = some q → AW l m_L_law 33 600000 7302250 (x_Ri q) 90 14893 18 [some (.ref v0), some (.ref v1), some (.ref v2), some (.int v3)] [] M) (H : f_L_law_1157 κ18 v0 v1 v2 v3 M = some q) : AW l m_L_law 33 600000 7302250 (x_Ri q) 90 14893 1157 [some (.ref v0), some (.ref v1), some (.ref v2), some (.int v3)] [] M := by
  unfold f_L_law_1157 at H
  refine x_aload_n 1157 1 dL_law_1157 rfl rfl ?_
  refine x_aload_n 1158 0 dL_law_1158 rfl rfl ?_
  refine x_iload_n 1159 3 dL_law_1159 rfl rfl ?_
  refine x_iconst 1160 (1 : Int32) dL_law_1160 (by decide) ?_
  refine x_iadd 1161 dL_law_1161 ?_
  obtain ⟨h450, H⟩ := x_ckp H
  obtain ⟨h451, H⟩ := x_ckp H
  refine x_siald 1162 dL_law_1162 h450 h451 ?_
  refine x_aload_n 1163 0 dL_law_1163 rfl rfl ?_
  refine x_iload_n 1164 3 dL_law_1164 rfl rfl ?_
  refine x_iconst 1165 (2 : Int32) dL_law_1165 (by decide) ?_
  refine x_iadd 1166 dL_law_1166 ?_
  obtain ⟨h452, H⟩ := x_ckp H
  refine x_siald 1167 dL_law_1167 h452 h451 ?_
  refine x_aload_n 1168 0 dL_law_1168 rfl rfl ?_
  refine x_iload_n 1169 3 dL_law_1169 rfl rfl ?_
  refine x_iconst 1170 (3 : Int32) dL_law_1170 (by decide) ?_
  refine x_iadd 1171 dL_law_1171 ?_
  obtain ⟨h453, H⟩ := x_ckp H
  refine x_siald 1172 dL_law_1172 h453 h451 ?_
  refine x_aload_n 1173 0 dL_law_1173 rfl rfl ?_
  refine x_iload_n 1174 3 dL_law_1174 rfl rfl ?_
  refine x_iconst 1175 (4 : Int32) dL_law_1175 (by decide) ?_
  refine x_iadd 1176 dL_law_1176 ?_
  obtain ⟨h454, H⟩ := x_ckp H
  refine x_siald 1177 dL_law_1177 h454 h451 ?_
  refine x_aload_n 1178 0 dL_law_1178 rfl rfl ?_
  refine x_iload_n 1179 3 dL_law_1179 rfl rfl ?_
  refine x_iconst 1180 (5 : Int32) dL_law_1180 (by decide) ?_
  refine x_iadd 1181 dL_law_1181 ?_
  obtain ⟨h455, H⟩ := x_ckp H
  refine x_siald 1182 dL_law_1182 h455 h451 ?_
  obtain ⟨h456, H⟩ := x_ckp H
  obtain ⟨r458, M457, e459, H⟩ := x_bd_of H
  refine x_callV 1183 126 8 [(.int (x_i M v0 (v3 + (1 : Int32)).toNatClampNeg)), (.int (x_i M v0 (v3 + (2 : Int32)).toNatClampNeg)), (.int (x_i M v0 (v3 + (3 : Int32)).toNatClampNeg)), (.int (x_i M v0 (v3 + (4 : Int32)).toNatClampNeg)), (.int (x_i M v0 (v3 + (5 : Int32)).toNatClampNeg))] [] dL_law_1183 (ct_X8_parted l e459) lk_892 lk_893 lk_894 (by decide) h456 lk_85 lk_895 ⟨cn_X8_parted, (by decide), by decide⟩ rfl (Nat.le_of_ble_eq_true rfl) (Nat.le_of_ble_eq_true rfl) (Nat.le_of_ble_eq_true rfl) (x_ri ?_)
  exact t_L_law_c1183 l hκ18 H

def f_L_law_c1235 (κ18 : Nat → Nat → Nat → Int32 → XM → Option (Int32 × XM)) (v0 : Nat) (v1 : Nat) (v2 : Nat) (v3 : Int32) (s1 : Int32) (s0 : Int32) (M : XM) : Option (Int32 × XM) :=
  if s1 = s0 then (f_L_law_1519 κ18 v0 v1 v2 v3 M) else (some ((0 : Int32), M))
set_option maxRecDepth 20000 in
set_option maxHeartbeats 4000000 in
theorem t_L_law_c1235 (l : Launch) {κ18 : Nat → Nat → Nat → Int32 → XM → Option (Int32 × XM)} {v0 : Nat} {v1 : Nat} {v2 : Nat} {v3 : Int32} {s1 : Int32} {s0 : Int32} {M : XM} {q : Int32 × XM} (hκ18 : ∀ (v0 : Nat) (v1 : Nat) (v2 : Nat) (v3 : Int32) (M : XM), κ18 v0 v1 v2 v3 M = some q → AW l m_L_law 33 600000 7302250 (x_Ri q) 90 14893 18 [some (.ref v0), some (.ref v1), some (.ref v2), some (.int v3)] [] M) (H : f_L_law_c1235 κ18 v0 v1 v2 v3 s1 s0 M = some q) : AW l m_L_law 33 600000 7302250 (x_Ri q) 90 14893 1238 [some (.ref v0), some (.ref v1), some (.ref v2), some (.int v3)] [(.int s0), (.int s1)] M := by
  unfold f_L_law_c1235 at H
  refine x_icmp_eq 1238 1519 dL_law_1238 (by decide) (fun c484 => ?_) (fun c484 => ?_)
  · replace H := x_ifp c484 H
    exact t_L_law_1519 l hκ18 H
  · replace H := x_ifn c484 H
    refine x_iconst 1241 (0 : Int32) dL_law_1241 (by decide) ?_
    cases H
    exact x_iret 1242 dL_law_1242 .boolean rfl rfl (Nat.le_of_ble_eq_true rfl) (Nat.le_of_ble_eq_true rfl) ⟨rfl, rfl⟩

def f_L_law_c1226 (κ18 : Nat → Nat → Nat → Int32 → XM → Option (Int32 × XM)) (v0 : Nat) (v1 : Nat) (v2 : Nat) (v3 : Int32) (s0 : Int32) (M : XM) : Option (Int32 × XM) :=
  if x_at M v0 5 (v3 + (1 : Int32)) = true then (if v0 < 20 then (if x_tag M v2 = 9 + 10 then (x_bd (f_X9_tally v2 (x_i M v0 (v3 + (1 : Int32)).toNatClampNeg) M) (f_L_law_c1235 κ18 v0 v1 v2 v3 s0)) else none) else none) else none
set_option maxRecDepth 20000 in
set_option maxHeartbeats 4000000 in
theorem t_L_law_c1226 (l : Launch) {κ18 : Nat → Nat → Nat → Int32 → XM → Option (Int32 × XM)} {v0 : Nat} {v1 : Nat} {v2 : Nat} {v3 : Int32} {s0 : Int32} {M : XM} {q : Int32 × XM} (hκ18 : ∀ (v0 : Nat) (v1 : Nat) (v2 : Nat) (v3 : Int32) (M : XM), κ18 v0 v1 v2 v3 M = some q → AW l m_L_law 33 600000 7302250 (x_Ri q) 90 14893 18 [some (.ref v0), some (.ref v1), some (.ref v2), some (.int v3)] [] M) (H : f_L_law_c1226 κ18 v0 v1 v2 v3 s0 M = some q) : AW l m_L_law 33 600000 7302250 (x_Ri q) 90 14893 1229 [some (.ref v0), some (.ref v1), some (.ref v2), some (.int v3)] [(.int s0)] M := by
  unfold f_L_law_c1226 at H
  refine x_aload_n 1229 2 dL_law_1229 rfl rfl ?_
  refine x_aload_n 1230 0 dL_law_1230 rfl rfl ?_
  refine x_iload_n 1231 3 dL_law_1231 rfl rfl ?_
  refine x_iconst 1232 (1 : Int32) dL_law_1232 (by decide) ?_
  refine x_iadd 1233 dL_law_1233 ?_
  obtain ⟨h478, H⟩ := x_ckp H
  obtain ⟨h479, H⟩ := x_ckp H
  refine x_siald 1234 dL_law_1234 h478 h479 ?_
  obtain ⟨h480, H⟩ := x_ckp H
  obtain ⟨r482, M481, e483, H⟩ := x_bd_of H
  refine x_callV 1235 133 9 [(.int (x_i M v0 (v3 + (1 : Int32)).toNatClampNeg))] [(.int s0)] dL_law_1235 (ct_X9_tally l e483) lk_1412 lk_1413 lk_1414 (by decide) h480 lk_94 lk_1415 ⟨cn_X9_tally, (by decide), by decide⟩ rfl (Nat.le_of_ble_eq_true rfl) (Nat.le_of_ble_eq_true rfl) (Nat.le_of_ble_eq_true rfl) (x_ri ?_)
  exact t_L_law_c1235 l hκ18 H

def f_L_law_1220 (κ18 : Nat → Nat → Nat → Int32 → XM → Option (Int32 × XM)) (v0 : Nat) (v1 : Nat) (v2 : Nat) (v3 : Int32) (M : XM) : Option (Int32 × XM) :=
  if x_at M v0 5 (v3 + (1 : Int32)) = true then (if v0 < 20 then (if x_tag M v1 = 8 + 10 then (x_bd (f_X8_tally v1 (x_i M v0 (v3 + (1 : Int32)).toNatClampNeg) M) (f_L_law_c1226 κ18 v0 v1 v2 v3)) else none) else none) else none
set_option maxRecDepth 20000 in
set_option maxHeartbeats 4000000 in
theorem t_L_law_1220 (l : Launch) {κ18 : Nat → Nat → Nat → Int32 → XM → Option (Int32 × XM)} {v0 : Nat} {v1 : Nat} {v2 : Nat} {v3 : Int32} {M : XM} {q : Int32 × XM} (hκ18 : ∀ (v0 : Nat) (v1 : Nat) (v2 : Nat) (v3 : Int32) (M : XM), κ18 v0 v1 v2 v3 M = some q → AW l m_L_law 33 600000 7302250 (x_Ri q) 90 14893 18 [some (.ref v0), some (.ref v1), some (.ref v2), some (.int v3)] [] M) (H : f_L_law_1220 κ18 v0 v1 v2 v3 M = some q) : AW l m_L_law 33 600000 7302250 (x_Ri q) 90 14893 1220 [some (.ref v0), some (.ref v1), some (.ref v2), some (.int v3)] [] M := by
  unfold f_L_law_1220 at H
  refine x_aload_n 1220 1 dL_law_1220 rfl rfl ?_
  refine x_aload_n 1221 0 dL_law_1221 rfl rfl ?_
  refine x_iload_n 1222 3 dL_law_1222 rfl rfl ?_
  refine x_iconst 1223 (1 : Int32) dL_law_1223 (by decide) ?_
  refine x_iadd 1224 dL_law_1224 ?_
  obtain ⟨h472, H⟩ := x_ckp H
  obtain ⟨h473, H⟩ := x_ckp H
  refine x_siald 1225 dL_law_1225 h472 h473 ?_
  obtain ⟨h474, H⟩ := x_ckp H
  obtain ⟨r476, M475, e477, H⟩ := x_bd_of H
  refine x_callV 1226 130 8 [(.int (x_i M v0 (v3 + (1 : Int32)).toNatClampNeg))] [] dL_law_1226 (ct_X8_tally l e477) lk_901 lk_902 lk_903 (by decide) h474 lk_85 lk_904 ⟨cn_X8_tally, (by decide), by decide⟩ rfl (Nat.le_of_ble_eq_true rfl) (Nat.le_of_ble_eq_true rfl) (Nat.le_of_ble_eq_true rfl) (x_ri ?_)
  exact t_L_law_c1226 l hκ18 H

def f_L_law_c1258 (κ18 : Nat → Nat → Nat → Int32 → XM → Option (Int32 × XM)) (v0 : Nat) (v1 : Nat) (v2 : Nat) (v3 : Int32) (s1 : Int32) (s0 : Int32) (M : XM) : Option (Int32 × XM) :=
  if s1 = s0 then (f_L_law_1519 κ18 v0 v1 v2 v3 M) else (some ((0 : Int32), M))
set_option maxRecDepth 20000 in
set_option maxHeartbeats 4000000 in
theorem t_L_law_c1258 (l : Launch) {κ18 : Nat → Nat → Nat → Int32 → XM → Option (Int32 × XM)} {v0 : Nat} {v1 : Nat} {v2 : Nat} {v3 : Int32} {s1 : Int32} {s0 : Int32} {M : XM} {q : Int32 × XM} (hκ18 : ∀ (v0 : Nat) (v1 : Nat) (v2 : Nat) (v3 : Int32) (M : XM), κ18 v0 v1 v2 v3 M = some q → AW l m_L_law 33 600000 7302250 (x_Ri q) 90 14893 18 [some (.ref v0), some (.ref v1), some (.ref v2), some (.int v3)] [] M) (H : f_L_law_c1258 κ18 v0 v1 v2 v3 s1 s0 M = some q) : AW l m_L_law 33 600000 7302250 (x_Ri q) 90 14893 1261 [some (.ref v0), some (.ref v1), some (.ref v2), some (.int v3)] [(.int s0), (.int s1)] M := by
  unfold f_L_law_c1258 at H
  refine x_icmp_eq 1261 1519 dL_law_1261 (by decide) (fun c498 => ?_) (fun c498 => ?_)
  · replace H := x_ifp c498 H
    exact t_L_law_1519 l hκ18 H
  · replace H := x_ifn c498 H
    refine x_iconst 1264 (0 : Int32) dL_law_1264 (by decide) ?_
    cases H
    exact x_iret 1265 dL_law_1265 .boolean rfl rfl (Nat.le_of_ble_eq_true rfl) (Nat.le_of_ble_eq_true rfl) ⟨rfl, rfl⟩

def f_L_law_c1249 (κ18 : Nat → Nat → Nat → Int32 → XM → Option (Int32 × XM)) (v0 : Nat) (v1 : Nat) (v2 : Nat) (v3 : Int32) (s0 : Int32) (M : XM) : Option (Int32 × XM) :=
  if x_at M v0 5 (v3 + (1 : Int32)) = true then (if v0 < 20 then (if x_tag M v2 = 9 + 10 then (x_bd (f_X9_tallies v2 (x_i M v0 (v3 + (1 : Int32)).toNatClampNeg) M) (f_L_law_c1258 κ18 v0 v1 v2 v3 s0)) else none) else none) else none
set_option maxRecDepth 20000 in
set_option maxHeartbeats 4000000 in
theorem t_L_law_c1249 (l : Launch) {κ18 : Nat → Nat → Nat → Int32 → XM → Option (Int32 × XM)} {v0 : Nat} {v1 : Nat} {v2 : Nat} {v3 : Int32} {s0 : Int32} {M : XM} {q : Int32 × XM} (hκ18 : ∀ (v0 : Nat) (v1 : Nat) (v2 : Nat) (v3 : Int32) (M : XM), κ18 v0 v1 v2 v3 M = some q → AW l m_L_law 33 600000 7302250 (x_Ri q) 90 14893 18 [some (.ref v0), some (.ref v1), some (.ref v2), some (.int v3)] [] M) (H : f_L_law_c1249 κ18 v0 v1 v2 v3 s0 M = some q) : AW l m_L_law 33 600000 7302250 (x_Ri q) 90 14893 1252 [some (.ref v0), some (.ref v1), some (.ref v2), some (.int v3)] [(.int s0)] M := by
  unfold f_L_law_c1249 at H
  refine x_aload_n 1252 2 dL_law_1252 rfl rfl ?_
  refine x_aload_n 1253 0 dL_law_1253 rfl rfl ?_
  refine x_iload_n 1254 3 dL_law_1254 rfl rfl ?_
  refine x_iconst 1255 (1 : Int32) dL_law_1255 (by decide) ?_
  refine x_iadd 1256 dL_law_1256 ?_
  obtain ⟨h492, H⟩ := x_ckp H
  obtain ⟨h493, H⟩ := x_ckp H
  refine x_siald 1257 dL_law_1257 h492 h493 ?_
  obtain ⟨h494, H⟩ := x_ckp H
  obtain ⟨r496, M495, e497, H⟩ := x_bd_of H
  refine x_callV 1258 137 9 [(.int (x_i M v0 (v3 + (1 : Int32)).toNatClampNeg))] [(.int s0)] dL_law_1258 (ct_X9_tallies l e497) lk_1416 lk_1417 lk_1418 (by decide) h494 lk_94 lk_1419 ⟨cn_X9_tallies, (by decide), by decide⟩ rfl (Nat.le_of_ble_eq_true rfl) (Nat.le_of_ble_eq_true rfl) (Nat.le_of_ble_eq_true rfl) (x_ri ?_)
  exact t_L_law_c1258 l hκ18 H

def f_L_law_1243 (κ18 : Nat → Nat → Nat → Int32 → XM → Option (Int32 × XM)) (v0 : Nat) (v1 : Nat) (v2 : Nat) (v3 : Int32) (M : XM) : Option (Int32 × XM) :=
  if x_at M v0 5 (v3 + (1 : Int32)) = true then (if v0 < 20 then (if x_tag M v1 = 8 + 10 then (x_bd (f_X8_tallies v1 (x_i M v0 (v3 + (1 : Int32)).toNatClampNeg) M) (f_L_law_c1249 κ18 v0 v1 v2 v3)) else none) else none) else none
set_option maxRecDepth 20000 in
set_option maxHeartbeats 4000000 in
theorem t_L_law_1243 (l : Launch) {κ18 : Nat → Nat → Nat → Int32 → XM → Option (Int32 × XM)} {v0 : Nat} {v1 : Nat} {v2 : Nat} {v3 : Int32} {M : XM} {q : Int32 × XM} (hκ18 : ∀ (v0 : Nat) (v1 : Nat) (v2 : Nat) (v3 : Int32) (M : XM), κ18 v0 v1 v2 v3 M = some q → AW l m_L_law 33 600000 7302250 (x_Ri q) 90 14893 18 [some (.ref v0), some (.ref v1), some (.ref v2), some (.int v3)] [] M) (H : f_L_law_1243 κ18 v0 v1 v2 v3 M = some q) : AW l m_L_law 33 600000 7302250 (x_Ri q) 90 14893 1243 [some (.ref v0), some (.ref v1), some (.ref v2), some (.int v3)] [] M := by
  unfold f_L_law_1243 at H
  refine x_aload_n 1243 1 dL_law_1243 rfl rfl ?_
  refine x_aload_n 1244 0 dL_law_1244 rfl rfl ?_
  refine x_iload_n 1245 3 dL_law_1245 rfl rfl ?_
  refine x_iconst 1246 (1 : Int32) dL_law_1246 (by decide) ?_
  refine x_iadd 1247 dL_law_1247 ?_
  obtain ⟨h486, H⟩ := x_ckp H
  obtain ⟨h487, H⟩ := x_ckp H
  refine x_siald 1248 dL_law_1248 h486 h487 ?_
  obtain ⟨h488, H⟩ := x_ckp H
  obtain ⟨r490, M489, e491, H⟩ := x_bd_of H
  refine x_callV 1249 134 8 [(.int (x_i M v0 (v3 + (1 : Int32)).toNatClampNeg))] [] dL_law_1249 (ct_X8_tallies l e491) lk_907 lk_908 lk_909 (by decide) h488 lk_85 lk_910 ⟨cn_X8_tallies, (by decide), by decide⟩ rfl (Nat.le_of_ble_eq_true rfl) (Nat.le_of_ble_eq_true rfl) (Nat.le_of_ble_eq_true rfl) (x_ri ?_)
  exact t_L_law_c1249 l hκ18 H

def f_L_law_c1271 (κ18 : Nat → Nat → Nat → Int32 → XM → Option (Int32 × XM)) (v0 : Nat) (v1 : Nat) (v2 : Nat) (v3 : Int32) (s1 : Int32) (s0 : Int32) (M : XM) : Option (Int32 × XM) :=
  if s1 = s0 then (f_L_law_1519 κ18 v0 v1 v2 v3 M) else (some ((0 : Int32), M))
set_option maxRecDepth 20000 in
set_option maxHeartbeats 4000000 in
theorem t_L_law_c1271 (l : Launch) {κ18 : Nat → Nat → Nat → Int32 → XM → Option (Int32 × XM)} {v0 : Nat} {v1 : Nat} {v2 : Nat} {v3 : Int32} {s1 : Int32} {s0 : Int32} {M : XM} {q : Int32 × XM} (hκ18 : ∀ (v0 : Nat) (v1 : Nat) (v2 : Nat) (v3 : Int32) (M : XM), κ18 v0 v1 v2 v3 M = some q → AW l m_L_law 33 600000 7302250 (x_Ri q) 90 14893 18 [some (.ref v0), some (.ref v1), some (.ref v2), some (.int v3)] [] M) (H : f_L_law_c1271 κ18 v0 v1 v2 v3 s1 s0 M = some q) : AW l m_L_law 33 600000 7302250 (x_Ri q) 90 14893 1274 [some (.ref v0), some (.ref v1), some (.ref v2), some (.int v3)] [(.int s0), (.int s1)] M := by
  unfold f_L_law_c1271 at H
  refine x_icmp_eq 1274 1519 dL_law_1274 (by decide) (fun c508 => ?_) (fun c508 => ?_)
  · replace H := x_ifp c508 H
    exact t_L_law_1519 l hκ18 H
  · replace H := x_ifn c508 H
    refine x_iconst 1277 (0 : Int32) dL_law_1277 (by decide) ?_
    cases H
    exact x_iret 1278 dL_law_1278 .boolean rfl rfl (Nat.le_of_ble_eq_true rfl) (Nat.le_of_ble_eq_true rfl) ⟨rfl, rfl⟩

def f_L_law_c1267 (κ18 : Nat → Nat → Nat → Int32 → XM → Option (Int32 × XM)) (v0 : Nat) (v1 : Nat) (v2 : Nat) (v3 : Int32) (s0 : Int32) (M : XM) : Option (Int32 × XM) :=
  if x_tag M v2 = 9 + 10 then (x_bd (f_X9_forget v2 M) (f_L_law_c1271 κ18 v0 v1 v2 v3 s0)) else none
set_option maxRecDepth 20000 in
set_option maxHeartbeats 4000000 in
theorem t_L_law_c1267 (l : Launch) {κ18 : Nat → Nat → Nat → Int32 → XM → Option (Int32 × XM)} {v0 : Nat} {v1 : Nat} {v2 : Nat} {v3 : Int32} {s0 : Int32} {M : XM} {q : Int32 × XM} (hκ18 : ∀ (v0 : Nat) (v1 : Nat) (v2 : Nat) (v3 : Int32) (M : XM), κ18 v0 v1 v2 v3 M = some q → AW l m_L_law 33 600000 7302250 (x_Ri q) 90 14893 18 [some (.ref v0), some (.ref v1), some (.ref v2), some (.int v3)] [] M) (H : f_L_law_c1267 κ18 v0 v1 v2 v3 s0 M = some q) : AW l m_L_law 33 600000 7302250 (x_Ri q) 90 14893 1270 [some (.ref v0), some (.ref v1), some (.ref v2), some (.int v3)] [(.int s0)] M := by
  unfold f_L_law_c1267 at H
  refine x_aload_n 1270 2 dL_law_1270 rfl rfl ?_
  obtain ⟨h504, H⟩ := x_ckp H
  obtain ⟨r506, M505, e507, H⟩ := x_bd_of H
  refine x_callV 1271 141 9 [] [(.int s0)] dL_law_1271 (ct_X9_forget l e507) lk_1436 lk_1437 lk_1438 (by decide) h504 lk_94 lk_1439 ⟨cn_X9_forget, (by decide), by decide⟩ rfl (Nat.le_of_ble_eq_true rfl) (Nat.le_of_ble_eq_true rfl) (Nat.le_of_ble_eq_true rfl) (x_ri ?_)
  exact t_L_law_c1271 l hκ18 H

def f_L_law_1266 (κ18 : Nat → Nat → Nat → Int32 → XM → Option (Int32 × XM)) (v0 : Nat) (v1 : Nat) (v2 : Nat) (v3 : Int32) (M : XM) : Option (Int32 × XM) :=
  if x_tag M v1 = 8 + 10 then (x_bd (f_X8_forget v1 M) (f_L_law_c1267 κ18 v0 v1 v2 v3)) else none
set_option maxRecDepth 20000 in
set_option maxHeartbeats 4000000 in
theorem t_L_law_1266 (l : Launch) {κ18 : Nat → Nat → Nat → Int32 → XM → Option (Int32 × XM)} {v0 : Nat} {v1 : Nat} {v2 : Nat} {v3 : Int32} {M : XM} {q : Int32 × XM} (hκ18 : ∀ (v0 : Nat) (v1 : Nat) (v2 : Nat) (v3 : Int32) (M : XM), κ18 v0 v1 v2 v3 M = some q → AW l m_L_law 33 600000 7302250 (x_Ri q) 90 14893 18 [some (.ref v0), some (.ref v1), some (.ref v2), some (.int v3)] [] M) (H : f_L_law_1266 κ18 v0 v1 v2 v3 M = some q) : AW l m_L_law 33 600000 7302250 (x_Ri q) 90 14893 1266 [some (.ref v0), some (.ref v1), some (.ref v2), some (.int v3)] [] M := by
  unfold f_L_law_1266 at H
  refine x_aload_n 1266 1 dL_law_1266 rfl rfl ?_
  obtain ⟨h500, H⟩ := x_ckp H
  obtain ⟨r502, M501, e503, H⟩ := x_bd_of H
  refine x_callV 1267 138 8 [] [] dL_law_1267 (ct_X8_forget l e503) lk_928 lk_929 lk_930 (by decide) h500 lk_85 lk_931 ⟨cn_X8_forget, (by decide), by decide⟩ rfl (Nat.le_of_ble_eq_true rfl) (Nat.le_of_ble_eq_true rfl) (Nat.le_of_ble_eq_true rfl) (x_ri ?_)
  exact t_L_law_c1267 l hκ18 H

def f_L_law_c1304 (κ18 : Nat → Nat → Nat → Int32 → XM → Option (Int32 × XM)) (v0 : Nat) (v1 : Nat) (v2 : Nat) (v3 : Int32) (s1 : Int32) (s0 : Int32) (M : XM) : Option (Int32 × XM) :=
  if s1 = s0 then (f_L_law_1519 κ18 v0 v1 v2 v3 M) else (some ((0 : Int32), M))
set_option maxRecDepth 20000 in
set_option maxHeartbeats 4000000 in
theorem t_L_law_c1304 (l : Launch) {κ18 : Nat → Nat → Nat → Int32 → XM → Option (Int32 × XM)} {v0 : Nat} {v1 : Nat} {v2 : Nat} {v3 : Int32} {s1 : Int32} {s0 : Int32} {M : XM} {q : Int32 × XM} (hκ18 : ∀ (v0 : Nat) (v1 : Nat) (v2 : Nat) (v3 : Int32) (M : XM), κ18 v0 v1 v2 v3 M = some q → AW l m_L_law 33 600000 7302250 (x_Ri q) 90 14893 18 [some (.ref v0), some (.ref v1), some (.ref v2), some (.int v3)] [] M) (H : f_L_law_c1304 κ18 v0 v1 v2 v3 s1 s0 M = some q) : AW l m_L_law 33 600000 7302250 (x_Ri q) 90 14893 1307 [some (.ref v0), some (.ref v1), some (.ref v2), some (.int v3)] [(.int s0), (.int s1)] M := by
  unfold f_L_law_c1304 at H
  refine x_icmp_eq 1307 1519 dL_law_1307 (by decide) (fun c524 => ?_) (fun c524 => ?_)
  · replace H := x_ifp c524 H
    exact t_L_law_1519 l hκ18 H
  · replace H := x_ifn c524 H
    refine x_iconst 1310 (0 : Int32) dL_law_1310 (by decide) ?_
    cases H
    exact x_iret 1311 dL_law_1311 .boolean rfl rfl (Nat.le_of_ble_eq_true rfl) (Nat.le_of_ble_eq_true rfl) ⟨rfl, rfl⟩

def f_L_law_c1290 (κ18 : Nat → Nat → Nat → Int32 → XM → Option (Int32 × XM)) (v0 : Nat) (v1 : Nat) (v2 : Nat) (v3 : Int32) (s0 : Int32) (M : XM) : Option (Int32 × XM) :=
  if x_at M v0 5 (v3 + (1 : Int32)) = true then (if v0 < 20 then (if x_at M v0 5 (v3 + (2 : Int32)) = true then (if x_tag M v2 = 9 + 10 then (x_bd (f_X9_knits v2 (x_i M v0 (v3 + (1 : Int32)).toNatClampNeg) (x_i M v0 (v3 + (2 : Int32)).toNatClampNeg) M) (f_L_law_c1304 κ18 v0 v1 v2 v3 s0)) else none) else none) else none) else none
set_option maxRecDepth 20000 in
set_option maxHeartbeats 4000000 in
theorem t_L_law_c1290 (l : Launch) {κ18 : Nat → Nat → Nat → Int32 → XM → Option (Int32 × XM)} {v0 : Nat} {v1 : Nat} {v2 : Nat} {v3 : Int32} {s0 : Int32} {M : XM} {q : Int32 × XM} (hκ18 : ∀ (v0 : Nat) (v1 : Nat) (v2 : Nat) (v3 : Int32) (M : XM), κ18 v0 v1 v2 v3 M = some q → AW l m_L_law 33 600000 7302250 (x_Ri q) 90 14893 18 [some (.ref v0), some (.ref v1), some (.ref v2), some (.int v3)] [] M) (H : f_L_law_c1290 κ18 v0 v1 v2 v3 s0 M = some q) : AW l m_L_law 33 600000 7302250 (x_Ri q) 90 14893 1293 [some (.ref v0), some (.ref v1), some (.ref v2), some (.int v3)] [(.int s0)] M := by
  unfold f_L_law_c1290 at H
  refine x_aload_n 1293 2 dL_law_1293 rfl rfl ?_
  refine x_aload_n 1294 0 dL_law_1294 rfl rfl ?_
  refine x_iload_n 1295 3 dL_law_1295 rfl rfl ?_
  refine x_iconst 1296 (1 : Int32) dL_law_1296 (by decide) ?_
  refine x_iadd 1297 dL_law_1297 ?_
  obtain ⟨h517, H⟩ := x_ckp H
  obtain ⟨h518, H⟩ := x_ckp H
  refine x_siald 1298 dL_law_1298 h517 h518 ?_
  refine x_aload_n 1299 0 dL_law_1299 rfl rfl ?_
  refine x_iload_n 1300 3 dL_law_1300 rfl rfl ?_
  refine x_iconst 1301 (2 : Int32) dL_law_1301 (by decide) ?_
  refine x_iadd 1302 dL_law_1302 ?_
  obtain ⟨h519, H⟩ := x_ckp H
  refine x_siald 1303 dL_law_1303 h519 h518 ?_
  obtain ⟨h520, H⟩ := x_ckp H
  obtain ⟨r522, M521, e523, H⟩ := x_bd_of H
  refine x_callV 1304 145 9 [(.int (x_i M v0 (v3 + (1 : Int32)).toNatClampNeg)), (.int (x_i M v0 (v3 + (2 : Int32)).toNatClampNeg))] [(.int s0)] dL_law_1304 (ct_X9_knits l e523) lk_1440 lk_1441 lk_1442 (by decide) h520 lk_94 lk_1443 ⟨cn_X9_knits, (by decide), by decide⟩ rfl (Nat.le_of_ble_eq_true rfl) (Nat.le_of_ble_eq_true rfl) (Nat.le_of_ble_eq_true rfl) (x_ri ?_)
  exact t_L_law_c1304 l hκ18 H

def f_L_law_1279 (κ18 : Nat → Nat → Nat → Int32 → XM → Option (Int32 × XM)) (v0 : Nat) (v1 : Nat) (v2 : Nat) (v3 : Int32) (M : XM) : Option (Int32 × XM) :=
  if x_at M v0 5 (v3 + (1 : Int32)) = true then (if v0 < 20 then (if x_at M v0 5 (v3 + (2 : Int32)) = true then (if x_tag M v1 = 8 + 10 then (x_bd (f_X8_knits v1 (x_i M v0 (v3 + (1 : Int32)).toNatClampNeg) (x_i M v0 (v3 + (2 : Int32)).toNatClampNeg) M) (f_L_law_c1290 κ18 v0 v1 v2 v3)) else none) else none) else none) else none
set_option maxRecDepth 20000 in
set_option maxHeartbeats 4000000 in
theorem t_L_law_1279 (l : Launch) {κ18 : Nat → Nat → Nat → Int32 → XM → Option (Int32 × XM)} {v0 : Nat} {v1 : Nat} {v2 : Nat} {v3 : Int32} {M : XM} {q : Int32 × XM} (hκ18 : ∀ (v0 : Nat) (v1 : Nat) (v2 : Nat) (v3 : Int32) (M : XM), κ18 v0 v1 v2 v3 M = some q → AW l m_L_law 33 600000 7302250 (x_Ri q) 90 14893 18 [some (.ref v0), some (.ref v1), some (.ref v2), some (.int v3)] [] M) (H : f_L_law_1279 κ18 v0 v1 v2 v3 M = some q) : AW l m_L_law 33 600000 7302250 (x_Ri q) 90 14893 1279 [some (.ref v0), some (.ref v1), some (.ref v2), some (.int v3)] [] M := by
  unfold f_L_law_1279 at H
  refine x_aload_n 1279 1 dL_law_1279 rfl rfl ?_
  refine x_aload_n 1280 0 dL_law_1280 rfl rfl ?_
  refine x_iload_n 1281 3 dL_law_1281 rfl rfl ?_
  refine x_iconst 1282 (1 : Int32) dL_law_1282 (by decide) ?_
  refine x_iadd 1283 dL_law_1283 ?_
  obtain ⟨h510, H⟩ := x_ckp H
  obtain ⟨h511, H⟩ := x_ckp H
  refine x_siald 1284 dL_law_1284 h510 h511 ?_
  refine x_aload_n 1285 0 dL_law_1285 rfl rfl ?_
  refine x_iload_n 1286 3 dL_law_1286 rfl rfl ?_
  refine x_iconst 1287 (2 : Int32) dL_law_1287 (by decide) ?_
  refine x_iadd 1288 dL_law_1288 ?_
  obtain ⟨h512, H⟩ := x_ckp H
  refine x_siald 1289 dL_law_1289 h512 h511 ?_
  obtain ⟨h513, H⟩ := x_ckp H
  obtain ⟨r515, M514, e516, H⟩ := x_bd_of H
  refine x_callV 1290 142 8 [(.int (x_i M v0 (v3 + (1 : Int32)).toNatClampNeg)), (.int (x_i M v0 (v3 + (2 : Int32)).toNatClampNeg))] [] dL_law_1290 (ct_X8_knits l e516) lk_932 lk_933 lk_934 (by decide) h513 lk_85 lk_935 ⟨cn_X8_knits, (by decide), by decide⟩ rfl (Nat.le_of_ble_eq_true rfl) (Nat.le_of_ble_eq_true rfl) (Nat.le_of_ble_eq_true rfl) (x_ri ?_)
  exact t_L_law_c1290 l hκ18 H

def f_L_law_c1327 (κ18 : Nat → Nat → Nat → Int32 → XM → Option (Int32 × XM)) (v0 : Nat) (v1 : Nat) (v2 : Nat) (v3 : Int32) (s1 : Int32) (s0 : Int32) (M : XM) : Option (Int32 × XM) :=
  if s1 = s0 then (f_L_law_1519 κ18 v0 v1 v2 v3 M) else (some ((0 : Int32), M))
set_option maxRecDepth 20000 in
set_option maxHeartbeats 4000000 in
theorem t_L_law_c1327 (l : Launch) {κ18 : Nat → Nat → Nat → Int32 → XM → Option (Int32 × XM)} {v0 : Nat} {v1 : Nat} {v2 : Nat} {v3 : Int32} {s1 : Int32} {s0 : Int32} {M : XM} {q : Int32 × XM} (hκ18 : ∀ (v0 : Nat) (v1 : Nat) (v2 : Nat) (v3 : Int32) (M : XM), κ18 v0 v1 v2 v3 M = some q → AW l m_L_law 33 600000 7302250 (x_Ri q) 90 14893 18 [some (.ref v0), some (.ref v1), some (.ref v2), some (.int v3)] [] M) (H : f_L_law_c1327 κ18 v0 v1 v2 v3 s1 s0 M = some q) : AW l m_L_law 33 600000 7302250 (x_Ri q) 90 14893 1330 [some (.ref v0), some (.ref v1), some (.ref v2), some (.int v3)] [(.int s0), (.int s1)] M := by
  unfold f_L_law_c1327 at H
  refine x_icmp_eq 1330 1519 dL_law_1330 (by decide) (fun c538 => ?_) (fun c538 => ?_)
  · replace H := x_ifp c538 H
    exact t_L_law_1519 l hκ18 H
  · replace H := x_ifn c538 H
    refine x_iconst 1333 (0 : Int32) dL_law_1333 (by decide) ?_
    cases H
    exact x_iret 1334 dL_law_1334 .boolean rfl rfl (Nat.le_of_ble_eq_true rfl) (Nat.le_of_ble_eq_true rfl) ⟨rfl, rfl⟩

def f_L_law_c1318 (κ18 : Nat → Nat → Nat → Int32 → XM → Option (Int32 × XM)) (v0 : Nat) (v1 : Nat) (v2 : Nat) (v3 : Int32) (s0 : Int32) (M : XM) : Option (Int32 × XM) :=
  if x_at M v0 5 (v3 + (1 : Int32)) = true then (if v0 < 20 then (if x_tag M v2 = 9 + 10 then (x_bd (f_X9_asks v2 (x_i M v0 (v3 + (1 : Int32)).toNatClampNeg) M) (f_L_law_c1327 κ18 v0 v1 v2 v3 s0)) else none) else none) else none
set_option maxRecDepth 20000 in
set_option maxHeartbeats 4000000 in
theorem t_L_law_c1318 (l : Launch) {κ18 : Nat → Nat → Nat → Int32 → XM → Option (Int32 × XM)} {v0 : Nat} {v1 : Nat} {v2 : Nat} {v3 : Int32} {s0 : Int32} {M : XM} {q : Int32 × XM} (hκ18 : ∀ (v0 : Nat) (v1 : Nat) (v2 : Nat) (v3 : Int32) (M : XM), κ18 v0 v1 v2 v3 M = some q → AW l m_L_law 33 600000 7302250 (x_Ri q) 90 14893 18 [some (.ref v0), some (.ref v1), some (.ref v2), some (.int v3)] [] M) (H : f_L_law_c1318 κ18 v0 v1 v2 v3 s0 M = some q) : AW l m_L_law 33 600000 7302250 (x_Ri q) 90 14893 1321 [some (.ref v0), some (.ref v1), some (.ref v2), some (.int v3)] [(.int s0)] M := by
  unfold f_L_law_c1318 at H
  refine x_aload_n 1321 2 dL_law_1321 rfl rfl ?_
  refine x_aload_n 1322 0 dL_law_1322 rfl rfl ?_
  refine x_iload_n 1323 3 dL_law_1323 rfl rfl ?_
  refine x_iconst 1324 (1 : Int32) dL_law_1324 (by decide) ?_
  refine x_iadd 1325 dL_law_1325 ?_
  obtain ⟨h532, H⟩ := x_ckp H
  obtain ⟨h533, H⟩ := x_ckp H
  refine x_siald 1326 dL_law_1326 h532 h533 ?_
  obtain ⟨h534, H⟩ := x_ckp H
  obtain ⟨r536, M535, e537, H⟩ := x_bd_of H
  refine x_callV 1327 149 9 [(.int (x_i M v0 (v3 + (1 : Int32)).toNatClampNeg))] [(.int s0)] dL_law_1327 (ct_X9_asks l e537) lk_1448 lk_1449 lk_1450 (by decide) h534 lk_94 lk_1451 ⟨cn_X9_asks, (by decide), by decide⟩ rfl (Nat.le_of_ble_eq_true rfl) (Nat.le_of_ble_eq_true rfl) (Nat.le_of_ble_eq_true rfl) (x_ri ?_)
  exact t_L_law_c1327 l hκ18 H

def f_L_law_1312 (κ18 : Nat → Nat → Nat → Int32 → XM → Option (Int32 × XM)) (v0 : Nat) (v1 : Nat) (v2 : Nat) (v3 : Int32) (M : XM) : Option (Int32 × XM) :=
  if x_at M v0 5 (v3 + (1 : Int32)) = true then (if v0 < 20 then (if x_tag M v1 = 8 + 10 then (x_bd (f_X8_asks v1 (x_i M v0 (v3 + (1 : Int32)).toNatClampNeg) M) (f_L_law_c1318 κ18 v0 v1 v2 v3)) else none) else none) else none
set_option maxRecDepth 20000 in
set_option maxHeartbeats 4000000 in
theorem t_L_law_1312 (l : Launch) {κ18 : Nat → Nat → Nat → Int32 → XM → Option (Int32 × XM)} {v0 : Nat} {v1 : Nat} {v2 : Nat} {v3 : Int32} {M : XM} {q : Int32 × XM} (hκ18 : ∀ (v0 : Nat) (v1 : Nat) (v2 : Nat) (v3 : Int32) (M : XM), κ18 v0 v1 v2 v3 M = some q → AW l m_L_law 33 600000 7302250 (x_Ri q) 90 14893 18 [some (.ref v0), some (.ref v1), some (.ref v2), some (.int v3)] [] M) (H : f_L_law_1312 κ18 v0 v1 v2 v3 M = some q) : AW l m_L_law 33 600000 7302250 (x_Ri q) 90 14893 1312 [some (.ref v0), some (.ref v1), some (.ref v2), some (.int v3)] [] M := by
  unfold f_L_law_1312 at H
  refine x_aload_n 1312 1 dL_law_1312 rfl rfl ?_
  refine x_aload_n 1313 0 dL_law_1313 rfl rfl ?_
  refine x_iload_n 1314 3 dL_law_1314 rfl rfl ?_
  refine x_iconst 1315 (1 : Int32) dL_law_1315 (by decide) ?_
  refine x_iadd 1316 dL_law_1316 ?_
  obtain ⟨h526, H⟩ := x_ckp H
  obtain ⟨h527, H⟩ := x_ckp H
  refine x_siald 1317 dL_law_1317 h526 h527 ?_
  obtain ⟨h528, H⟩ := x_ckp H
  obtain ⟨r530, M529, e531, H⟩ := x_bd_of H
  refine x_callV 1318 146 8 [(.int (x_i M v0 (v3 + (1 : Int32)).toNatClampNeg))] [] dL_law_1318 (ct_X8_asks l e531) lk_937 lk_938 lk_939 (by decide) h528 lk_85 lk_940 ⟨cn_X8_asks, (by decide), by decide⟩ rfl (Nat.le_of_ble_eq_true rfl) (Nat.le_of_ble_eq_true rfl) (Nat.le_of_ble_eq_true rfl) (x_ri ?_)
  exact t_L_law_c1318 l hκ18 H

def f_L_law_c1350 (κ18 : Nat → Nat → Nat → Int32 → XM → Option (Int32 × XM)) (v0 : Nat) (v1 : Nat) (v2 : Nat) (v3 : Int32) (s1 : Int32) (s0 : Int32) (M : XM) : Option (Int32 × XM) :=
  if s1 = s0 then (f_L_law_1519 κ18 v0 v1 v2 v3 M) else (some ((0 : Int32), M))
set_option maxRecDepth 20000 in
set_option maxHeartbeats 4000000 in
theorem t_L_law_c1350 (l : Launch) {κ18 : Nat → Nat → Nat → Int32 → XM → Option (Int32 × XM)} {v0 : Nat} {v1 : Nat} {v2 : Nat} {v3 : Int32} {s1 : Int32} {s0 : Int32} {M : XM} {q : Int32 × XM} (hκ18 : ∀ (v0 : Nat) (v1 : Nat) (v2 : Nat) (v3 : Int32) (M : XM), κ18 v0 v1 v2 v3 M = some q → AW l m_L_law 33 600000 7302250 (x_Ri q) 90 14893 18 [some (.ref v0), some (.ref v1), some (.ref v2), some (.int v3)] [] M) (H : f_L_law_c1350 κ18 v0 v1 v2 v3 s1 s0 M = some q) : AW l m_L_law 33 600000 7302250 (x_Ri q) 90 14893 1353 [some (.ref v0), some (.ref v1), some (.ref v2), some (.int v3)] [(.int s0), (.int s1)] M := by
  unfold f_L_law_c1350 at H
  refine x_icmp_eq 1353 1519 dL_law_1353 (by decide) (fun c552 => ?_) (fun c552 => ?_)
  · replace H := x_ifp c552 H
    exact t_L_law_1519 l hκ18 H
  · replace H := x_ifn c552 H
    refine x_iconst 1356 (0 : Int32) dL_law_1356 (by decide) ?_
    cases H
    exact x_iret 1357 dL_law_1357 .boolean rfl rfl (Nat.le_of_ble_eq_true rfl) (Nat.le_of_ble_eq_true rfl) ⟨rfl, rfl⟩

def f_L_law_c1341 (κ18 : Nat → Nat → Nat → Int32 → XM → Option (Int32 × XM)) (v0 : Nat) (v1 : Nat) (v2 : Nat) (v3 : Int32) (s0 : Int32) (M : XM) : Option (Int32 × XM) :=
  if x_at M v0 5 (v3 + (1 : Int32)) = true then (if v0 < 20 then (if x_tag M v2 = 9 + 10 then (x_bd (f_X9_again v2 (x_i M v0 (v3 + (1 : Int32)).toNatClampNeg) M) (f_L_law_c1350 κ18 v0 v1 v2 v3 s0)) else none) else none) else none
set_option maxRecDepth 20000 in
set_option maxHeartbeats 4000000 in
theorem t_L_law_c1341 (l : Launch) {κ18 : Nat → Nat → Nat → Int32 → XM → Option (Int32 × XM)} {v0 : Nat} {v1 : Nat} {v2 : Nat} {v3 : Int32} {s0 : Int32} {M : XM} {q : Int32 × XM} (hκ18 : ∀ (v0 : Nat) (v1 : Nat) (v2 : Nat) (v3 : Int32) (M : XM), κ18 v0 v1 v2 v3 M = some q → AW l m_L_law 33 600000 7302250 (x_Ri q) 90 14893 18 [some (.ref v0), some (.ref v1), some (.ref v2), some (.int v3)] [] M) (H : f_L_law_c1341 κ18 v0 v1 v2 v3 s0 M = some q) : AW l m_L_law 33 600000 7302250 (x_Ri q) 90 14893 1344 [some (.ref v0), some (.ref v1), some (.ref v2), some (.int v3)] [(.int s0)] M := by
  unfold f_L_law_c1341 at H
  refine x_aload_n 1344 2 dL_law_1344 rfl rfl ?_
  refine x_aload_n 1345 0 dL_law_1345 rfl rfl ?_
  refine x_iload_n 1346 3 dL_law_1346 rfl rfl ?_
  refine x_iconst 1347 (1 : Int32) dL_law_1347 (by decide) ?_
  refine x_iadd 1348 dL_law_1348 ?_
  obtain ⟨h546, H⟩ := x_ckp H
  obtain ⟨h547, H⟩ := x_ckp H
  refine x_siald 1349 dL_law_1349 h546 h547 ?_
  obtain ⟨h548, H⟩ := x_ckp H
  obtain ⟨r550, M549, e551, H⟩ := x_bd_of H
  refine x_callV 1350 153 9 [(.int (x_i M v0 (v3 + (1 : Int32)).toNatClampNeg))] [(.int s0)] dL_law_1350 (ct_X9_again l e551) lk_1452 lk_1453 lk_1454 (by decide) h548 lk_94 lk_1455 ⟨cn_X9_again, (by decide), by decide⟩ rfl (Nat.le_of_ble_eq_true rfl) (Nat.le_of_ble_eq_true rfl) (Nat.le_of_ble_eq_true rfl) (x_ri ?_)
  exact t_L_law_c1350 l hκ18 H

def f_L_law_1335 (κ18 : Nat → Nat → Nat → Int32 → XM → Option (Int32 × XM)) (v0 : Nat) (v1 : Nat) (v2 : Nat) (v3 : Int32) (M : XM) : Option (Int32 × XM) :=
  if x_at M v0 5 (v3 + (1 : Int32)) = true then (if v0 < 20 then (if x_tag M v1 = 8 + 10 then (x_bd (f_X8_again v1 (x_i M v0 (v3 + (1 : Int32)).toNatClampNeg) M) (f_L_law_c1341 κ18 v0 v1 v2 v3)) else none) else none) else none
set_option maxRecDepth 20000 in
set_option maxHeartbeats 4000000 in
theorem t_L_law_1335 (l : Launch) {κ18 : Nat → Nat → Nat → Int32 → XM → Option (Int32 × XM)} {v0 : Nat} {v1 : Nat} {v2 : Nat} {v3 : Int32} {M : XM} {q : Int32 × XM} (hκ18 : ∀ (v0 : Nat) (v1 : Nat) (v2 : Nat) (v3 : Int32) (M : XM), κ18 v0 v1 v2 v3 M = some q → AW l m_L_law 33 600000 7302250 (x_Ri q) 90 14893 18 [some (.ref v0), some (.ref v1), some (.ref v2), some (.int v3)] [] M) (H : f_L_law_1335 κ18 v0 v1 v2 v3 M = some q) : AW l m_L_law 33 600000 7302250 (x_Ri q) 90 14893 1335 [some (.ref v0), some (.ref v1), some (.ref v2), some (.int v3)] [] M := by
  unfold f_L_law_1335 at H
  refine x_aload_n 1335 1 dL_law_1335 rfl rfl ?_
  refine x_aload_n 1336 0 dL_law_1336 rfl rfl ?_
  refine x_iload_n 1337 3 dL_law_1337 rfl rfl ?_
  refine x_iconst 1338 (1 : Int32) dL_law_1338 (by decide) ?_
  refine x_iadd 1339 dL_law_1339 ?_
  obtain ⟨h540, H⟩ := x_ckp H
  obtain ⟨h541, H⟩ := x_ckp H
  refine x_siald 1340 dL_law_1340 h540 h541 ?_
  obtain ⟨h542, H⟩ := x_ckp H
  obtain ⟨r544, M543, e545, H⟩ := x_bd_of H
  refine x_callV 1341 150 8 [(.int (x_i M v0 (v3 + (1 : Int32)).toNatClampNeg))] [] dL_law_1341 (ct_X8_again l e545) lk_941 lk_942 lk_943 (by decide) h542 lk_85 lk_944 ⟨cn_X8_again, (by decide), by decide⟩ rfl (Nat.le_of_ble_eq_true rfl) (Nat.le_of_ble_eq_true rfl) (Nat.le_of_ble_eq_true rfl) (x_ri ?_)
  exact t_L_law_c1341 l hκ18 H

def f_L_law_c1373 (κ18 : Nat → Nat → Nat → Int32 → XM → Option (Int32 × XM)) (v0 : Nat) (v1 : Nat) (v2 : Nat) (v3 : Int32) (s1 : Int32) (s0 : Int32) (M : XM) : Option (Int32 × XM) :=
  if s1 = s0 then (f_L_law_1519 κ18 v0 v1 v2 v3 M) else (some ((0 : Int32), M))
set_option maxRecDepth 20000 in
set_option maxHeartbeats 4000000 in
theorem t_L_law_c1373 (l : Launch) {κ18 : Nat → Nat → Nat → Int32 → XM → Option (Int32 × XM)} {v0 : Nat} {v1 : Nat} {v2 : Nat} {v3 : Int32} {s1 : Int32} {s0 : Int32} {M : XM} {q : Int32 × XM} (hκ18 : ∀ (v0 : Nat) (v1 : Nat) (v2 : Nat) (v3 : Int32) (M : XM), κ18 v0 v1 v2 v3 M = some q → AW l m_L_law 33 600000 7302250 (x_Ri q) 90 14893 18 [some (.ref v0), some (.ref v1), some (.ref v2), some (.int v3)] [] M) (H : f_L_law_c1373 κ18 v0 v1 v2 v3 s1 s0 M = some q) : AW l m_L_law 33 600000 7302250 (x_Ri q) 90 14893 1376 [some (.ref v0), some (.ref v1), some (.ref v2), some (.int v3)] [(.int s0), (.int s1)] M := by
  unfold f_L_law_c1373 at H
  refine x_icmp_eq 1376 1519 dL_law_1376 (by decide) (fun c566 => ?_) (fun c566 => ?_)
  · replace H := x_ifp c566 H
    exact t_L_law_1519 l hκ18 H
  · replace H := x_ifn c566 H
    refine x_iconst 1379 (0 : Int32) dL_law_1379 (by decide) ?_
    cases H
    exact x_iret 1380 dL_law_1380 .boolean rfl rfl (Nat.le_of_ble_eq_true rfl) (Nat.le_of_ble_eq_true rfl) ⟨rfl, rfl⟩

def f_L_law_c1364 (κ18 : Nat → Nat → Nat → Int32 → XM → Option (Int32 × XM)) (v0 : Nat) (v1 : Nat) (v2 : Nat) (v3 : Int32) (s0 : Int32) (M : XM) : Option (Int32 × XM) :=
  if x_at M v0 5 (v3 + (1 : Int32)) = true then (if v0 < 20 then (if x_tag M v2 = 9 + 10 then (x_bd (f_X9_evenings v2 (x_i M v0 (v3 + (1 : Int32)).toNatClampNeg) M) (f_L_law_c1373 κ18 v0 v1 v2 v3 s0)) else none) else none) else none
set_option maxRecDepth 20000 in
set_option maxHeartbeats 4000000 in
theorem t_L_law_c1364 (l : Launch) {κ18 : Nat → Nat → Nat → Int32 → XM → Option (Int32 × XM)} {v0 : Nat} {v1 : Nat} {v2 : Nat} {v3 : Int32} {s0 : Int32} {M : XM} {q : Int32 × XM} (hκ18 : ∀ (v0 : Nat) (v1 : Nat) (v2 : Nat) (v3 : Int32) (M : XM), κ18 v0 v1 v2 v3 M = some q → AW l m_L_law 33 600000 7302250 (x_Ri q) 90 14893 18 [some (.ref v0), some (.ref v1), some (.ref v2), some (.int v3)] [] M) (H : f_L_law_c1364 κ18 v0 v1 v2 v3 s0 M = some q) : AW l m_L_law 33 600000 7302250 (x_Ri q) 90 14893 1367 [some (.ref v0), some (.ref v1), some (.ref v2), some (.int v3)] [(.int s0)] M := by
  unfold f_L_law_c1364 at H
  refine x_aload_n 1367 2 dL_law_1367 rfl rfl ?_
  refine x_aload_n 1368 0 dL_law_1368 rfl rfl ?_
  refine x_iload_n 1369 3 dL_law_1369 rfl rfl ?_
  refine x_iconst 1370 (1 : Int32) dL_law_1370 (by decide) ?_
  refine x_iadd 1371 dL_law_1371 ?_
  obtain ⟨h560, H⟩ := x_ckp H
  obtain ⟨h561, H⟩ := x_ckp H
  refine x_siald 1372 dL_law_1372 h560 h561 ?_
  obtain ⟨h562, H⟩ := x_ckp H
  obtain ⟨r564, M563, e565, H⟩ := x_bd_of H
  refine x_callV 1373 157 9 [(.int (x_i M v0 (v3 + (1 : Int32)).toNatClampNeg))] [(.int s0)] dL_law_1373 (ct_X9_evenings l e565) lk_1460 lk_1461 lk_1462 (by decide) h562 lk_94 lk_1463 ⟨cn_X9_evenings, (by decide), by decide⟩ rfl (Nat.le_of_ble_eq_true rfl) (Nat.le_of_ble_eq_true rfl) (Nat.le_of_ble_eq_true rfl) (x_ri ?_)
  exact t_L_law_c1373 l hκ18 H

def f_L_law_1358 (κ18 : Nat → Nat → Nat → Int32 → XM → Option (Int32 × XM)) (v0 : Nat) (v1 : Nat) (v2 : Nat) (v3 : Int32) (M : XM) : Option (Int32 × XM) :=
  if x_at M v0 5 (v3 + (1 : Int32)) = true then (if v0 < 20 then (if x_tag M v1 = 8 + 10 then (x_bd (f_X8_evenings v1 (x_i M v0 (v3 + (1 : Int32)).toNatClampNeg) M) (f_L_law_c1364 κ18 v0 v1 v2 v3)) else none) else none) else none
set_option maxRecDepth 20000 in
set_option maxHeartbeats 4000000 in
theorem t_L_law_1358 (l : Launch) {κ18 : Nat → Nat → Nat → Int32 → XM → Option (Int32 × XM)} {v0 : Nat} {v1 : Nat} {v2 : Nat} {v3 : Int32} {M : XM} {q : Int32 × XM} (hκ18 : ∀ (v0 : Nat) (v1 : Nat) (v2 : Nat) (v3 : Int32) (M : XM), κ18 v0 v1 v2 v3 M = some q → AW l m_L_law 33 600000 7302250 (x_Ri q) 90 14893 18 [some (.ref v0), some (.ref v1), some (.ref v2), some (.int v3)] [] M) (H : f_L_law_1358 κ18 v0 v1 v2 v3 M = some q) : AW l m_L_law 33 600000 7302250 (x_Ri q) 90 14893 1358 [some (.ref v0), some (.ref v1), some (.ref v2), some (.int v3)] [] M := by
  unfold f_L_law_1358 at H
  refine x_aload_n 1358 1 dL_law_1358 rfl rfl ?_
  refine x_aload_n 1359 0 dL_law_1359 rfl rfl ?_
  refine x_iload_n 1360 3 dL_law_1360 rfl rfl ?_
  refine x_iconst 1361 (1 : Int32) dL_law_1361 (by decide) ?_
  refine x_iadd 1362 dL_law_1362 ?_
  obtain ⟨h554, H⟩ := x_ckp H
  obtain ⟨h555, H⟩ := x_ckp H
  refine x_siald 1363 dL_law_1363 h554 h555 ?_
  obtain ⟨h556, H⟩ := x_ckp H
  obtain ⟨r558, M557, e559, H⟩ := x_bd_of H
  refine x_callV 1364 154 8 [(.int (x_i M v0 (v3 + (1 : Int32)).toNatClampNeg))] [] dL_law_1364 (ct_X8_evenings l e559) lk_946 lk_947 lk_948 (by decide) h556 lk_85 lk_949 ⟨cn_X8_evenings, (by decide), by decide⟩ rfl (Nat.le_of_ble_eq_true rfl) (Nat.le_of_ble_eq_true rfl) (Nat.le_of_ble_eq_true rfl) (x_ri ?_)
  exact t_L_law_c1364 l hκ18 H

def f_L_law_c1396 (κ18 : Nat → Nat → Nat → Int32 → XM → Option (Int32 × XM)) (v0 : Nat) (v1 : Nat) (v2 : Nat) (v3 : Int32) (s1 : Int32) (s0 : Int32) (M : XM) : Option (Int32 × XM) :=
  if s1 = s0 then (f_L_law_1519 κ18 v0 v1 v2 v3 M) else (some ((0 : Int32), M))
set_option maxRecDepth 20000 in
set_option maxHeartbeats 4000000 in
theorem t_L_law_c1396 (l : Launch) {κ18 : Nat → Nat → Nat → Int32 → XM → Option (Int32 × XM)} {v0 : Nat} {v1 : Nat} {v2 : Nat} {v3 : Int32} {s1 : Int32} {s0 : Int32} {M : XM} {q : Int32 × XM} (hκ18 : ∀ (v0 : Nat) (v1 : Nat) (v2 : Nat) (v3 : Int32) (M : XM), κ18 v0 v1 v2 v3 M = some q → AW l m_L_law 33 600000 7302250 (x_Ri q) 90 14893 18 [some (.ref v0), some (.ref v1), some (.ref v2), some (.int v3)] [] M) (H : f_L_law_c1396 κ18 v0 v1 v2 v3 s1 s0 M = some q) : AW l m_L_law 33 600000 7302250 (x_Ri q) 90 14893 1399 [some (.ref v0), some (.ref v1), some (.ref v2), some (.int v3)] [(.int s0), (.int s1)] M := by
  unfold f_L_law_c1396 at H
  refine x_icmp_eq 1399 1519 dL_law_1399 (by decide) (fun c580 => ?_) (fun c580 => ?_)
  · replace H := x_ifp c580 H
    exact t_L_law_1519 l hκ18 H
  · replace H := x_ifn c580 H
    refine x_iconst 1402 (0 : Int32) dL_law_1402 (by decide) ?_
    cases H
    exact x_iret 1403 dL_law_1403 .boolean rfl rfl (Nat.le_of_ble_eq_true rfl) (Nat.le_of_ble_eq_true rfl) ⟨rfl, rfl⟩

def f_L_law_c1387 (κ18 : Nat → Nat → Nat → Int32 → XM → Option (Int32 × XM)) (v0 : Nat) (v1 : Nat) (v2 : Nat) (v3 : Int32) (s0 : Int32) (M : XM) : Option (Int32 × XM) :=
  if x_at M v0 5 (v3 + (1 : Int32)) = true then (if v0 < 20 then (if x_tag M v2 = 9 + 10 then (x_bd (f_X9_seed v2 (x_i M v0 (v3 + (1 : Int32)).toNatClampNeg) M) (f_L_law_c1396 κ18 v0 v1 v2 v3 s0)) else none) else none) else none
set_option maxRecDepth 20000 in
set_option maxHeartbeats 4000000 in
theorem t_L_law_c1387 (l : Launch) {κ18 : Nat → Nat → Nat → Int32 → XM → Option (Int32 × XM)} {v0 : Nat} {v1 : Nat} {v2 : Nat} {v3 : Int32} {s0 : Int32} {M : XM} {q : Int32 × XM} (hκ18 : ∀ (v0 : Nat) (v1 : Nat) (v2 : Nat) (v3 : Int32) (M : XM), κ18 v0 v1 v2 v3 M = some q → AW l m_L_law 33 600000 7302250 (x_Ri q) 90 14893 18 [some (.ref v0), some (.ref v1), some (.ref v2), some (.int v3)] [] M) (H : f_L_law_c1387 κ18 v0 v1 v2 v3 s0 M = some q) : AW l m_L_law 33 600000 7302250 (x_Ri q) 90 14893 1390 [some (.ref v0), some (.ref v1), some (.ref v2), some (.int v3)] [(.int s0)] M := by
  unfold f_L_law_c1387 at H
  refine x_aload_n 1390 2 dL_law_1390 rfl rfl ?_
  refine x_aload_n 1391 0 dL_law_1391 rfl rfl ?_
  refine x_iload_n 1392 3 dL_law_1392 rfl rfl ?_
  refine x_iconst 1393 (1 : Int32) dL_law_1393 (by decide) ?_
  refine x_iadd 1394 dL_law_1394 ?_
  obtain ⟨h574, H⟩ := x_ckp H
  obtain ⟨h575, H⟩ := x_ckp H
  refine x_siald 1395 dL_law_1395 h574 h575 ?_
  obtain ⟨h576, H⟩ := x_ckp H
  obtain ⟨r578, M577, e579, H⟩ := x_bd_of H
  refine x_callV 1396 161 9 [(.int (x_i M v0 (v3 + (1 : Int32)).toNatClampNeg))] [(.int s0)] dL_law_1396 (ct_X9_seed l e579) lk_1473 lk_1474 lk_1475 (by decide) h576 lk_94 lk_1476 ⟨cn_X9_seed, (by decide), by decide⟩ rfl (Nat.le_of_ble_eq_true rfl) (Nat.le_of_ble_eq_true rfl) (Nat.le_of_ble_eq_true rfl) (x_ri ?_)
  exact t_L_law_c1396 l hκ18 H

def f_L_law_1381 (κ18 : Nat → Nat → Nat → Int32 → XM → Option (Int32 × XM)) (v0 : Nat) (v1 : Nat) (v2 : Nat) (v3 : Int32) (M : XM) : Option (Int32 × XM) :=
  if x_at M v0 5 (v3 + (1 : Int32)) = true then (if v0 < 20 then (if x_tag M v1 = 8 + 10 then (x_bd (f_X8_seed v1 (x_i M v0 (v3 + (1 : Int32)).toNatClampNeg) M) (f_L_law_c1387 κ18 v0 v1 v2 v3)) else none) else none) else none
set_option maxRecDepth 20000 in
set_option maxHeartbeats 4000000 in
theorem t_L_law_1381 (l : Launch) {κ18 : Nat → Nat → Nat → Int32 → XM → Option (Int32 × XM)} {v0 : Nat} {v1 : Nat} {v2 : Nat} {v3 : Int32} {M : XM} {q : Int32 × XM} (hκ18 : ∀ (v0 : Nat) (v1 : Nat) (v2 : Nat) (v3 : Int32) (M : XM), κ18 v0 v1 v2 v3 M = some q → AW l m_L_law 33 600000 7302250 (x_Ri q) 90 14893 18 [some (.ref v0), some (.ref v1), some (.ref v2), some (.int v3)] [] M) (H : f_L_law_1381 κ18 v0 v1 v2 v3 M = some q) : AW l m_L_law 33 600000 7302250 (x_Ri q) 90 14893 1381 [some (.ref v0), some (.ref v1), some (.ref v2), some (.int v3)] [] M := by
  unfold f_L_law_1381 at H
  refine x_aload_n 1381 1 dL_law_1381 rfl rfl ?_
  refine x_aload_n 1382 0 dL_law_1382 rfl rfl ?_
  refine x_iload_n 1383 3 dL_law_1383 rfl rfl ?_
  refine x_iconst 1384 (1 : Int32) dL_law_1384 (by decide) ?_
  refine x_iadd 1385 dL_law_1385 ?_
  obtain ⟨h568, H⟩ := x_ckp H
  obtain ⟨h569, H⟩ := x_ckp H
  refine x_siald 1386 dL_law_1386 h568 h569 ?_
  obtain ⟨h570, H⟩ := x_ckp H
  obtain ⟨r572, M571, e573, H⟩ := x_bd_of H
  refine x_callV 1387 158 8 [(.int (x_i M v0 (v3 + (1 : Int32)).toNatClampNeg))] [] dL_law_1387 (ct_X8_seed l e573) lk_965 lk_966 lk_967 (by decide) h570 lk_85 lk_968 ⟨cn_X8_seed, (by decide), by decide⟩ rfl (Nat.le_of_ble_eq_true rfl) (Nat.le_of_ble_eq_true rfl) (Nat.le_of_ble_eq_true rfl) (x_ri ?_)
  exact t_L_law_c1387 l hκ18 H

def f_L_law_c1439 (κ18 : Nat → Nat → Nat → Int32 → XM → Option (Int32 × XM)) (v0 : Nat) (v1 : Nat) (v2 : Nat) (v3 : Int32) (s1 : Int32) (s0 : Int32) (M : XM) : Option (Int32 × XM) :=
  if s1 = s0 then (f_L_law_1519 κ18 v0 v1 v2 v3 M) else (some ((0 : Int32), M))
set_option maxRecDepth 20000 in
set_option maxHeartbeats 4000000 in
theorem t_L_law_c1439 (l : Launch) {κ18 : Nat → Nat → Nat → Int32 → XM → Option (Int32 × XM)} {v0 : Nat} {v1 : Nat} {v2 : Nat} {v3 : Int32} {s1 : Int32} {s0 : Int32} {M : XM} {q : Int32 × XM} (hκ18 : ∀ (v0 : Nat) (v1 : Nat) (v2 : Nat) (v3 : Int32) (M : XM), κ18 v0 v1 v2 v3 M = some q → AW l m_L_law 33 600000 7302250 (x_Ri q) 90 14893 18 [some (.ref v0), some (.ref v1), some (.ref v2), some (.int v3)] [] M) (H : f_L_law_c1439 κ18 v0 v1 v2 v3 s1 s0 M = some q) : AW l m_L_law 33 600000 7302250 (x_Ri q) 90 14893 1442 [some (.ref v0), some (.ref v1), some (.ref v2), some (.int v3)] [(.int s0), (.int s1)] M := by
  unfold f_L_law_c1439 at H
  refine x_icmp_eq 1442 1519 dL_law_1442 (by decide) (fun c598 => ?_) (fun c598 => ?_)
  · replace H := x_ifp c598 H
    exact t_L_law_1519 l hκ18 H
  · replace H := x_ifn c598 H
    refine x_iconst 1445 (0 : Int32) dL_law_1445 (by decide) ?_
    cases H
    exact x_iret 1446 dL_law_1446 .boolean rfl rfl (Nat.le_of_ble_eq_true rfl) (Nat.le_of_ble_eq_true rfl) ⟨rfl, rfl⟩

def f_L_law_c1420 (κ18 : Nat → Nat → Nat → Int32 → XM → Option (Int32 × XM)) (v0 : Nat) (v1 : Nat) (v2 : Nat) (v3 : Int32) (s0 : Int32) (M : XM) : Option (Int32 × XM) :=
  if x_at M v0 5 (v3 + (1 : Int32)) = true then (if v0 < 20 then (if x_at M v0 5 (v3 + (2 : Int32)) = true then (if x_at M v0 5 (v3 + (3 : Int32)) = true then (if x_tag M v2 = 9 + 10 then (x_bd (f_X9_act v2 (x_i M v0 (v3 + (1 : Int32)).toNatClampNeg) (x_i M v0 (v3 + (2 : Int32)).toNatClampNeg) (x_i M v0 (v3 + (3 : Int32)).toNatClampNeg) M) (f_L_law_c1439 κ18 v0 v1 v2 v3 s0)) else none) else none) else none) else none) else none
set_option maxRecDepth 20000 in
set_option maxHeartbeats 4000000 in
theorem t_L_law_c1420 (l : Launch) {κ18 : Nat → Nat → Nat → Int32 → XM → Option (Int32 × XM)} {v0 : Nat} {v1 : Nat} {v2 : Nat} {v3 : Int32} {s0 : Int32} {M : XM} {q : Int32 × XM} (hκ18 : ∀ (v0 : Nat) (v1 : Nat) (v2 : Nat) (v3 : Int32) (M : XM), κ18 v0 v1 v2 v3 M = some q → AW l m_L_law 33 600000 7302250 (x_Ri q) 90 14893 18 [some (.ref v0), some (.ref v1), some (.ref v2), some (.int v3)] [] M) (H : f_L_law_c1420 κ18 v0 v1 v2 v3 s0 M = some q) : AW l m_L_law 33 600000 7302250 (x_Ri q) 90 14893 1423 [some (.ref v0), some (.ref v1), some (.ref v2), some (.int v3)] [(.int s0)] M := by
  unfold f_L_law_c1420 at H
  refine x_aload_n 1423 2 dL_law_1423 rfl rfl ?_
  refine x_aload_n 1424 0 dL_law_1424 rfl rfl ?_
  refine x_iload_n 1425 3 dL_law_1425 rfl rfl ?_
  refine x_iconst 1426 (1 : Int32) dL_law_1426 (by decide) ?_
  refine x_iadd 1427 dL_law_1427 ?_
  obtain ⟨h590, H⟩ := x_ckp H
  obtain ⟨h591, H⟩ := x_ckp H
  refine x_siald 1428 dL_law_1428 h590 h591 ?_
  refine x_aload_n 1429 0 dL_law_1429 rfl rfl ?_
  refine x_iload_n 1430 3 dL_law_1430 rfl rfl ?_
  refine x_iconst 1431 (2 : Int32) dL_law_1431 (by decide) ?_
  refine x_iadd 1432 dL_law_1432 ?_
  obtain ⟨h592, H⟩ := x_ckp H
  refine x_siald 1433 dL_law_1433 h592 h591 ?_
  refine x_aload_n 1434 0 dL_law_1434 rfl rfl ?_
  refine x_iload_n 1435 3 dL_law_1435 rfl rfl ?_
  refine x_iconst 1436 (3 : Int32) dL_law_1436 (by decide) ?_
  refine x_iadd 1437 dL_law_1437 ?_
  obtain ⟨h593, H⟩ := x_ckp H
  refine x_siald 1438 dL_law_1438 h593 h591 ?_
  obtain ⟨h594, H⟩ := x_ckp H
  obtain ⟨r596, M595, e597, H⟩ := x_bd_of H
  refine x_callV 1439 165 9 [(.int (x_i M v0 (v3 + (1 : Int32)).toNatClampNeg)), (.int (x_i M v0 (v3 + (2 : Int32)).toNatClampNeg)), (.int (x_i M v0 (v3 + (3 : Int32)).toNatClampNeg))] [(.int s0)] dL_law_1439 (ct_X9_act l e597) lk_1477 lk_1478 lk_1479 (by decide) h594 lk_94 lk_1480 ⟨cn_X9_act, (by decide), by decide⟩ rfl (Nat.le_of_ble_eq_true rfl) (Nat.le_of_ble_eq_true rfl) (Nat.le_of_ble_eq_true rfl) (x_ri ?_)
  exact t_L_law_c1439 l hκ18 H

def f_L_law_1404 (κ18 : Nat → Nat → Nat → Int32 → XM → Option (Int32 × XM)) (v0 : Nat) (v1 : Nat) (v2 : Nat) (v3 : Int32) (M : XM) : Option (Int32 × XM) :=
  if x_at M v0 5 (v3 + (1 : Int32)) = true then (if v0 < 20 then (if x_at M v0 5 (v3 + (2 : Int32)) = true then (if x_at M v0 5 (v3 + (3 : Int32)) = true then (if x_tag M v1 = 8 + 10 then (x_bd (f_X8_act v1 (x_i M v0 (v3 + (1 : Int32)).toNatClampNeg) (x_i M v0 (v3 + (2 : Int32)).toNatClampNeg) (x_i M v0 (v3 + (3 : Int32)).toNatClampNeg) M) (f_L_law_c1420 κ18 v0 v1 v2 v3)) else none) else none) else none) else none) else none
set_option maxRecDepth 20000 in
set_option maxHeartbeats 4000000 in
theorem t_L_law_1404 (l : Launch) {κ18 : Nat → Nat → Nat → Int32 → XM → Option (Int32 × XM)} {v0 : Nat} {v1 : Nat} {v2 : Nat} {v3 : Int32} {M : XM} {q : Int32 × XM} (hκ18 : ∀ (v0 : Nat) (v1 : Nat) (v2 : Nat) (v3 : Int32) (M : XM), κ18 v0 v1 v2 v3 M = some q → AW l m_L_law 33 600000 7302250 (x_Ri q) 90 14893 18 [some (.ref v0), some (.ref v1), some (.ref v2), some (.int v3)] [] M) (H : f_L_law_1404 κ18 v0 v1 v2 v3 M = some q) : AW l m_L_law 33 600000 7302250 (x_Ri q) 90 14893 1404 [some (.ref v0), some (.ref v1), some (.ref v2), some (.int v3)] [] M := by
  unfold f_L_law_1404 at H
  refine x_aload_n 1404 1 dL_law_1404 rfl rfl ?_
  refine x_aload_n 1405 0 dL_law_1405 rfl rfl ?_
  refine x_iload_n 1406 3 dL_law_1406 rfl rfl ?_
  refine x_iconst 1407 (1 : Int32) dL_law_1407 (by decide) ?_
  refine x_iadd 1408 dL_law_1408 ?_
  obtain ⟨h582, H⟩ := x_ckp H
  obtain ⟨h583, H⟩ := x_ckp H
  refine x_siald 1409 dL_law_1409 h582 h583 ?_
  refine x_aload_n 1410 0 dL_law_1410 rfl rfl ?_
  refine x_iload_n 1411 3 dL_law_1411 rfl rfl ?_
  refine x_iconst 1412 (2 : Int32) dL_law_1412 (by decide) ?_
  refine x_iadd 1413 dL_law_1413 ?_
  obtain ⟨h584, H⟩ := x_ckp H
  refine x_siald 1414 dL_law_1414 h584 h583 ?_
  refine x_aload_n 1415 0 dL_law_1415 rfl rfl ?_
  refine x_iload_n 1416 3 dL_law_1416 rfl rfl ?_
  refine x_iconst 1417 (3 : Int32) dL_law_1417 (by decide) ?_
  refine x_iadd 1418 dL_law_1418 ?_
  obtain ⟨h585, H⟩ := x_ckp H
  refine x_siald 1419 dL_law_1419 h585 h583 ?_
  obtain ⟨h586, H⟩ := x_ckp H
  obtain ⟨r588, M587, e589, H⟩ := x_bd_of H
  refine x_callV 1420 162 8 [(.int (x_i M v0 (v3 + (1 : Int32)).toNatClampNeg)), (.int (x_i M v0 (v3 + (2 : Int32)).toNatClampNeg)), (.int (x_i M v0 (v3 + (3 : Int32)).toNatClampNeg))] [] dL_law_1420 (ct_X8_act l e589) lk_969 lk_970 lk_971 (by decide) h586 lk_85 lk_972 ⟨cn_X8_act, (by decide), by decide⟩ rfl (Nat.le_of_ble_eq_true rfl) (Nat.le_of_ble_eq_true rfl) (Nat.le_of_ble_eq_true rfl) (x_ri ?_)
  exact t_L_law_c1420 l hκ18 H

def f_L_law_c1462 (κ18 : Nat → Nat → Nat → Int32 → XM → Option (Int32 × XM)) (v0 : Nat) (v1 : Nat) (v2 : Nat) (v3 : Int32) (s1 : Int32) (s0 : Int32) (M : XM) : Option (Int32 × XM) :=
  if s1 = s0 then (f_L_law_1519 κ18 v0 v1 v2 v3 M) else (some ((0 : Int32), M))
set_option maxRecDepth 20000 in
set_option maxHeartbeats 4000000 in
theorem t_L_law_c1462 (l : Launch) {κ18 : Nat → Nat → Nat → Int32 → XM → Option (Int32 × XM)} {v0 : Nat} {v1 : Nat} {v2 : Nat} {v3 : Int32} {s1 : Int32} {s0 : Int32} {M : XM} {q : Int32 × XM} (hκ18 : ∀ (v0 : Nat) (v1 : Nat) (v2 : Nat) (v3 : Int32) (M : XM), κ18 v0 v1 v2 v3 M = some q → AW l m_L_law 33 600000 7302250 (x_Ri q) 90 14893 18 [some (.ref v0), some (.ref v1), some (.ref v2), some (.int v3)] [] M) (H : f_L_law_c1462 κ18 v0 v1 v2 v3 s1 s0 M = some q) : AW l m_L_law 33 600000 7302250 (x_Ri q) 90 14893 1465 [some (.ref v0), some (.ref v1), some (.ref v2), some (.int v3)] [(.int s0), (.int s1)] M := by
  unfold f_L_law_c1462 at H
  refine x_icmp_eq 1465 1519 dL_law_1465 (by decide) (fun c612 => ?_) (fun c612 => ?_)
  · replace H := x_ifp c612 H
    exact t_L_law_1519 l hκ18 H
  · replace H := x_ifn c612 H
    refine x_iconst 1468 (0 : Int32) dL_law_1468 (by decide) ?_
    cases H
    exact x_iret 1469 dL_law_1469 .boolean rfl rfl (Nat.le_of_ble_eq_true rfl) (Nat.le_of_ble_eq_true rfl) ⟨rfl, rfl⟩

def f_L_law_c1453 (κ18 : Nat → Nat → Nat → Int32 → XM → Option (Int32 × XM)) (v0 : Nat) (v1 : Nat) (v2 : Nat) (v3 : Int32) (s0 : Int32) (M : XM) : Option (Int32 × XM) :=
  if x_at M v0 5 (v3 + (1 : Int32)) = true then (if v0 < 20 then (if x_tag M v2 = 9 + 10 then (x_bd (f_X9_trace v2 (x_i M v0 (v3 + (1 : Int32)).toNatClampNeg) M) (f_L_law_c1462 κ18 v0 v1 v2 v3 s0)) else none) else none) else none
set_option maxRecDepth 20000 in
set_option maxHeartbeats 4000000 in
theorem t_L_law_c1453 (l : Launch) {κ18 : Nat → Nat → Nat → Int32 → XM → Option (Int32 × XM)} {v0 : Nat} {v1 : Nat} {v2 : Nat} {v3 : Int32} {s0 : Int32} {M : XM} {q : Int32 × XM} (hκ18 : ∀ (v0 : Nat) (v1 : Nat) (v2 : Nat) (v3 : Int32) (M : XM), κ18 v0 v1 v2 v3 M = some q → AW l m_L_law 33 600000 7302250 (x_Ri q) 90 14893 18 [some (.ref v0), some (.ref v1), some (.ref v2), some (.int v3)] [] M) (H : f_L_law_c1453 κ18 v0 v1 v2 v3 s0 M = some q) : AW l m_L_law 33 600000 7302250 (x_Ri q) 90 14893 1456 [some (.ref v0), some (.ref v1), some (.ref v2), some (.int v3)] [(.int s0)] M := by
  unfold f_L_law_c1453 at H
  refine x_aload_n 1456 2 dL_law_1456 rfl rfl ?_
  refine x_aload_n 1457 0 dL_law_1457 rfl rfl ?_
  refine x_iload_n 1458 3 dL_law_1458 rfl rfl ?_
  refine x_iconst 1459 (1 : Int32) dL_law_1459 (by decide) ?_
  refine x_iadd 1460 dL_law_1460 ?_
  obtain ⟨h606, H⟩ := x_ckp H
  obtain ⟨h607, H⟩ := x_ckp H
  refine x_siald 1461 dL_law_1461 h606 h607 ?_
  obtain ⟨h608, H⟩ := x_ckp H
  obtain ⟨r610, M609, e611, H⟩ := x_bd_of H
  refine x_callV 1462 169 9 [(.int (x_i M v0 (v3 + (1 : Int32)).toNatClampNeg))] [(.int s0)] dL_law_1462 (ct_X9_trace l e611) lk_1497 lk_1498 lk_1499 (by decide) h608 lk_94 lk_1500 ⟨cn_X9_trace, (by decide), by decide⟩ rfl (Nat.le_of_ble_eq_true rfl) (Nat.le_of_ble_eq_true rfl) (Nat.le_of_ble_eq_true rfl) (x_ri ?_)
  exact t_L_law_c1462 l hκ18 H

def f_L_law_1447 (κ18 : Nat → Nat → Nat → Int32 → XM → Option (Int32 × XM)) (v0 : Nat) (v1 : Nat) (v2 : Nat) (v3 : Int32) (M : XM) : Option (Int32 × XM) :=
  if x_at M v0 5 (v3 + (1 : Int32)) = true then (if v0 < 20 then (if x_tag M v1 = 8 + 10 then (x_bd (f_X8_trace v1 (x_i M v0 (v3 + (1 : Int32)).toNatClampNeg) M) (f_L_law_c1453 κ18 v0 v1 v2 v3)) else none) else none) else none
set_option maxRecDepth 20000 in
set_option maxHeartbeats 4000000 in
theorem t_L_law_1447 (l : Launch) {κ18 : Nat → Nat → Nat → Int32 → XM → Option (Int32 × XM)} {v0 : Nat} {v1 : Nat} {v2 : Nat} {v3 : Int32} {M : XM} {q : Int32 × XM} (hκ18 : ∀ (v0 : Nat) (v1 : Nat) (v2 : Nat) (v3 : Int32) (M : XM), κ18 v0 v1 v2 v3 M = some q → AW l m_L_law 33 600000 7302250 (x_Ri q) 90 14893 18 [some (.ref v0), some (.ref v1), some (.ref v2), some (.int v3)] [] M) (H : f_L_law_1447 κ18 v0 v1 v2 v3 M = some q) : AW l m_L_law 33 600000 7302250 (x_Ri q) 90 14893 1447 [some (.ref v0), some (.ref v1), some (.ref v2), some (.int v3)] [] M := by
  unfold f_L_law_1447 at H
  refine x_aload_n 1447 1 dL_law_1447 rfl rfl ?_
  refine x_aload_n 1448 0 dL_law_1448 rfl rfl ?_
  refine x_iload_n 1449 3 dL_law_1449 rfl rfl ?_
  refine x_iconst 1450 (1 : Int32) dL_law_1450 (by decide) ?_
  refine x_iadd 1451 dL_law_1451 ?_
  obtain ⟨h600, H⟩ := x_ckp H
  obtain ⟨h601, H⟩ := x_ckp H
  refine x_siald 1452 dL_law_1452 h600 h601 ?_
  obtain ⟨h602, H⟩ := x_ckp H
  obtain ⟨r604, M603, e605, H⟩ := x_bd_of H
  refine x_callV 1453 166 8 [(.int (x_i M v0 (v3 + (1 : Int32)).toNatClampNeg))] [] dL_law_1453 (ct_X8_trace l e605) lk_1003 lk_1004 lk_1005 (by decide) h602 lk_85 lk_1006 ⟨cn_X8_trace, (by decide), by decide⟩ rfl (Nat.le_of_ble_eq_true rfl) (Nat.le_of_ble_eq_true rfl) (Nat.le_of_ble_eq_true rfl) (x_ri ?_)
  exact t_L_law_c1453 l hκ18 H

def f_L_law_c1475 (κ18 : Nat → Nat → Nat → Int32 → XM → Option (Int32 × XM)) (v0 : Nat) (v1 : Nat) (v2 : Nat) (v3 : Int32) (s1 : Int32) (s0 : Int32) (M : XM) : Option (Int32 × XM) :=
  if s1 = s0 then (f_L_law_1519 κ18 v0 v1 v2 v3 M) else (some ((0 : Int32), M))
set_option maxRecDepth 20000 in
set_option maxHeartbeats 4000000 in
theorem t_L_law_c1475 (l : Launch) {κ18 : Nat → Nat → Nat → Int32 → XM → Option (Int32 × XM)} {v0 : Nat} {v1 : Nat} {v2 : Nat} {v3 : Int32} {s1 : Int32} {s0 : Int32} {M : XM} {q : Int32 × XM} (hκ18 : ∀ (v0 : Nat) (v1 : Nat) (v2 : Nat) (v3 : Int32) (M : XM), κ18 v0 v1 v2 v3 M = some q → AW l m_L_law 33 600000 7302250 (x_Ri q) 90 14893 18 [some (.ref v0), some (.ref v1), some (.ref v2), some (.int v3)] [] M) (H : f_L_law_c1475 κ18 v0 v1 v2 v3 s1 s0 M = some q) : AW l m_L_law 33 600000 7302250 (x_Ri q) 90 14893 1478 [some (.ref v0), some (.ref v1), some (.ref v2), some (.int v3)] [(.int s0), (.int s1)] M := by
  unfold f_L_law_c1475 at H
  refine x_icmp_eq 1478 1519 dL_law_1478 (by decide) (fun c622 => ?_) (fun c622 => ?_)
  · replace H := x_ifp c622 H
    exact t_L_law_1519 l hκ18 H
  · replace H := x_ifn c622 H
    refine x_iconst 1481 (0 : Int32) dL_law_1481 (by decide) ?_
    cases H
    exact x_iret 1482 dL_law_1482 .boolean rfl rfl (Nat.le_of_ble_eq_true rfl) (Nat.le_of_ble_eq_true rfl) ⟨rfl, rfl⟩

def f_L_law_c1471 (κ18 : Nat → Nat → Nat → Int32 → XM → Option (Int32 × XM)) (v0 : Nat) (v1 : Nat) (v2 : Nat) (v3 : Int32) (s0 : Int32) (M : XM) : Option (Int32 × XM) :=
  if x_tag M v2 = 9 + 10 then (x_bd (f_X9_image v2 M) (f_L_law_c1475 κ18 v0 v1 v2 v3 s0)) else none
set_option maxRecDepth 20000 in
set_option maxHeartbeats 4000000 in
theorem t_L_law_c1471 (l : Launch) {κ18 : Nat → Nat → Nat → Int32 → XM → Option (Int32 × XM)} {v0 : Nat} {v1 : Nat} {v2 : Nat} {v3 : Int32} {s0 : Int32} {M : XM} {q : Int32 × XM} (hκ18 : ∀ (v0 : Nat) (v1 : Nat) (v2 : Nat) (v3 : Int32) (M : XM), κ18 v0 v1 v2 v3 M = some q → AW l m_L_law 33 600000 7302250 (x_Ri q) 90 14893 18 [some (.ref v0), some (.ref v1), some (.ref v2), some (.int v3)] [] M) (H : f_L_law_c1471 κ18 v0 v1 v2 v3 s0 M = some q) : AW l m_L_law 33 600000 7302250 (x_Ri q) 90 14893 1474 [some (.ref v0), some (.ref v1), some (.ref v2), some (.int v3)] [(.int s0)] M := by
  unfold f_L_law_c1471 at H
  refine x_aload_n 1474 2 dL_law_1474 rfl rfl ?_
  obtain ⟨h618, H⟩ := x_ckp H
  obtain ⟨r620, M619, e621, H⟩ := x_bd_of H
  refine x_callV 1475 173 9 [] [(.int s0)] dL_law_1475 (ct_X9_image l e621) lk_1501 lk_1502 lk_1503 (by decide) h618 lk_94 lk_1504 ⟨cn_X9_image, (by decide), by decide⟩ rfl (Nat.le_of_ble_eq_true rfl) (Nat.le_of_ble_eq_true rfl) (Nat.le_of_ble_eq_true rfl) (x_ri ?_)
  exact t_L_law_c1475 l hκ18 H

def f_L_law_1470 (κ18 : Nat → Nat → Nat → Int32 → XM → Option (Int32 × XM)) (v0 : Nat) (v1 : Nat) (v2 : Nat) (v3 : Int32) (M : XM) : Option (Int32 × XM) :=
  if x_tag M v1 = 8 + 10 then (x_bd (f_X8_image v1 M) (f_L_law_c1471 κ18 v0 v1 v2 v3)) else none
set_option maxRecDepth 20000 in
set_option maxHeartbeats 4000000 in
theorem t_L_law_1470 (l : Launch) {κ18 : Nat → Nat → Nat → Int32 → XM → Option (Int32 × XM)} {v0 : Nat} {v1 : Nat} {v2 : Nat} {v3 : Int32} {M : XM} {q : Int32 × XM} (hκ18 : ∀ (v0 : Nat) (v1 : Nat) (v2 : Nat) (v3 : Int32) (M : XM), κ18 v0 v1 v2 v3 M = some q → AW l m_L_law 33 600000 7302250 (x_Ri q) 90 14893 18 [some (.ref v0), some (.ref v1), some (.ref v2), some (.int v3)] [] M) (H : f_L_law_1470 κ18 v0 v1 v2 v3 M = some q) : AW l m_L_law 33 600000 7302250 (x_Ri q) 90 14893 1470 [some (.ref v0), some (.ref v1), some (.ref v2), some (.int v3)] [] M := by
  unfold f_L_law_1470 at H
  refine x_aload_n 1470 1 dL_law_1470 rfl rfl ?_
  obtain ⟨h614, H⟩ := x_ckp H
  obtain ⟨r616, M615, e617, H⟩ := x_bd_of H
  refine x_callV 1471 170 8 [] [] dL_law_1471 (ct_X8_image l e617) lk_1011 lk_1012 lk_1013 (by decide) h614 lk_85 lk_1014 ⟨cn_X8_image, (by decide), by decide⟩ rfl (Nat.le_of_ble_eq_true rfl) (Nat.le_of_ble_eq_true rfl) (Nat.le_of_ble_eq_true rfl) (x_ri ?_)
  exact t_L_law_c1471 l hκ18 H

def f_L_law_c1488 (κ18 : Nat → Nat → Nat → Int32 → XM → Option (Int32 × XM)) (v0 : Nat) (v1 : Nat) (v2 : Nat) (v3 : Int32) (s1 : Int32) (s0 : Int32) (M : XM) : Option (Int32 × XM) :=
  if s1 = s0 then (f_L_law_1519 κ18 v0 v1 v2 v3 M) else (some ((0 : Int32), M))
set_option maxRecDepth 20000 in
set_option maxHeartbeats 4000000 in
theorem t_L_law_c1488 (l : Launch) {κ18 : Nat → Nat → Nat → Int32 → XM → Option (Int32 × XM)} {v0 : Nat} {v1 : Nat} {v2 : Nat} {v3 : Int32} {s1 : Int32} {s0 : Int32} {M : XM} {q : Int32 × XM} (hκ18 : ∀ (v0 : Nat) (v1 : Nat) (v2 : Nat) (v3 : Int32) (M : XM), κ18 v0 v1 v2 v3 M = some q → AW l m_L_law 33 600000 7302250 (x_Ri q) 90 14893 18 [some (.ref v0), some (.ref v1), some (.ref v2), some (.int v3)] [] M) (H : f_L_law_c1488 κ18 v0 v1 v2 v3 s1 s0 M = some q) : AW l m_L_law 33 600000 7302250 (x_Ri q) 90 14893 1491 [some (.ref v0), some (.ref v1), some (.ref v2), some (.int v3)] [(.int s0), (.int s1)] M := by
  unfold f_L_law_c1488 at H
  refine x_icmp_eq 1491 1519 dL_law_1491 (by decide) (fun c632 => ?_) (fun c632 => ?_)
  · replace H := x_ifp c632 H
    exact t_L_law_1519 l hκ18 H
  · replace H := x_ifn c632 H
    refine x_iconst 1494 (0 : Int32) dL_law_1494 (by decide) ?_
    cases H
    exact x_iret 1495 dL_law_1495 .boolean rfl rfl (Nat.le_of_ble_eq_true rfl) (Nat.le_of_ble_eq_true rfl) ⟨rfl, rfl⟩

def f_L_law_c1484 (κ18 : Nat → Nat → Nat → Int32 → XM → Option (Int32 × XM)) (v0 : Nat) (v1 : Nat) (v2 : Nat) (v3 : Int32) (s0 : Int32) (M : XM) : Option (Int32 × XM) :=
  if x_tag M v2 = 9 + 10 then (x_bd (f_X9_restore v2 M) (f_L_law_c1488 κ18 v0 v1 v2 v3 s0)) else none
set_option maxRecDepth 20000 in
set_option maxHeartbeats 4000000 in
theorem t_L_law_c1484 (l : Launch) {κ18 : Nat → Nat → Nat → Int32 → XM → Option (Int32 × XM)} {v0 : Nat} {v1 : Nat} {v2 : Nat} {v3 : Int32} {s0 : Int32} {M : XM} {q : Int32 × XM} (hκ18 : ∀ (v0 : Nat) (v1 : Nat) (v2 : Nat) (v3 : Int32) (M : XM), κ18 v0 v1 v2 v3 M = some q → AW l m_L_law 33 600000 7302250 (x_Ri q) 90 14893 18 [some (.ref v0), some (.ref v1), some (.ref v2), some (.int v3)] [] M) (H : f_L_law_c1484 κ18 v0 v1 v2 v3 s0 M = some q) : AW l m_L_law 33 600000 7302250 (x_Ri q) 90 14893 1487 [some (.ref v0), some (.ref v1), some (.ref v2), some (.int v3)] [(.int s0)] M := by
  unfold f_L_law_c1484 at H
  refine x_aload_n 1487 2 dL_law_1487 rfl rfl ?_
  obtain ⟨h628, H⟩ := x_ckp H
  obtain ⟨r630, M629, e631, H⟩ := x_bd_of H
  refine x_callV 1488 177 9 [] [(.int s0)] dL_law_1488 (ct_X9_restore l e631) lk_1505 lk_1506 lk_1507 (by decide) h628 lk_94 lk_1508 ⟨cn_X9_restore, (by decide), by decide⟩ rfl (Nat.le_of_ble_eq_true rfl) (Nat.le_of_ble_eq_true rfl) (Nat.le_of_ble_eq_true rfl) (x_ri ?_)
  exact t_L_law_c1488 l hκ18 H

def f_L_law_1483 (κ18 : Nat → Nat → Nat → Int32 → XM → Option (Int32 × XM)) (v0 : Nat) (v1 : Nat) (v2 : Nat) (v3 : Int32) (M : XM) : Option (Int32 × XM) :=
  if x_tag M v1 = 8 + 10 then (x_bd (f_X8_restore v1 M) (f_L_law_c1484 κ18 v0 v1 v2 v3)) else none
set_option maxRecDepth 20000 in
set_option maxHeartbeats 4000000 in
theorem t_L_law_1483 (l : Launch) {κ18 : Nat → Nat → Nat → Int32 → XM → Option (Int32 × XM)} {v0 : Nat} {v1 : Nat} {v2 : Nat} {v3 : Int32} {M : XM} {q : Int32 × XM} (hκ18 : ∀ (v0 : Nat) (v1 : Nat) (v2 : Nat) (v3 : Int32) (M : XM), κ18 v0 v1 v2 v3 M = some q → AW l m_L_law 33 600000 7302250 (x_Ri q) 90 14893 18 [some (.ref v0), some (.ref v1), some (.ref v2), some (.int v3)] [] M) (H : f_L_law_1483 κ18 v0 v1 v2 v3 M = some q) : AW l m_L_law 33 600000 7302250 (x_Ri q) 90 14893 1483 [some (.ref v0), some (.ref v1), some (.ref v2), some (.int v3)] [] M := by
  unfold f_L_law_1483 at H
  refine x_aload_n 1483 1 dL_law_1483 rfl rfl ?_
  obtain ⟨h624, H⟩ := x_ckp H
  obtain ⟨r626, M625, e627, H⟩ := x_bd_of H
  refine x_callV 1484 174 8 [] [] dL_law_1484 (ct_X8_restore l e627) lk_1015 lk_1016 lk_1017 (by decide) h624 lk_85 lk_1018 ⟨cn_X8_restore, (by decide), by decide⟩ rfl (Nat.le_of_ble_eq_true rfl) (Nat.le_of_ble_eq_true rfl) (Nat.le_of_ble_eq_true rfl) (x_ri ?_)
  exact t_L_law_c1484 l hκ18 H

def f_L_law_c1511 (κ18 : Nat → Nat → Nat → Int32 → XM → Option (Int32 × XM)) (v0 : Nat) (v1 : Nat) (v2 : Nat) (v3 : Int32) (s1 : Int32) (s0 : Int32) (M : XM) : Option (Int32 × XM) :=
  if s1 = s0 then (f_L_law_1519 κ18 v0 v1 v2 v3 M) else (some ((0 : Int32), M))
set_option maxRecDepth 20000 in
set_option maxHeartbeats 4000000 in
theorem t_L_law_c1511 (l : Launch) {κ18 : Nat → Nat → Nat → Int32 → XM → Option (Int32 × XM)} {v0 : Nat} {v1 : Nat} {v2 : Nat} {v3 : Int32} {s1 : Int32} {s0 : Int32} {M : XM} {q : Int32 × XM} (hκ18 : ∀ (v0 : Nat) (v1 : Nat) (v2 : Nat) (v3 : Int32) (M : XM), κ18 v0 v1 v2 v3 M = some q → AW l m_L_law 33 600000 7302250 (x_Ri q) 90 14893 18 [some (.ref v0), some (.ref v1), some (.ref v2), some (.int v3)] [] M) (H : f_L_law_c1511 κ18 v0 v1 v2 v3 s1 s0 M = some q) : AW l m_L_law 33 600000 7302250 (x_Ri q) 90 14893 1514 [some (.ref v0), some (.ref v1), some (.ref v2), some (.int v3)] [(.int s0), (.int s1)] M := by
  unfold f_L_law_c1511 at H
  refine x_icmp_eq 1514 1519 dL_law_1514 (by decide) (fun c646 => ?_) (fun c646 => ?_)
  · replace H := x_ifp c646 H
    exact t_L_law_1519 l hκ18 H
  · replace H := x_ifn c646 H
    refine x_iconst 1517 (0 : Int32) dL_law_1517 (by decide) ?_
    cases H
    exact x_iret 1518 dL_law_1518 .boolean rfl rfl (Nat.le_of_ble_eq_true rfl) (Nat.le_of_ble_eq_true rfl) ⟨rfl, rfl⟩

def f_L_law_c1502 (κ18 : Nat → Nat → Nat → Int32 → XM → Option (Int32 × XM)) (v0 : Nat) (v1 : Nat) (v2 : Nat) (v3 : Int32) (s0 : Int32) (M : XM) : Option (Int32 × XM) :=
  if x_at M v0 5 (v3 + (1 : Int32)) = true then (if v0 < 20 then (if x_tag M v2 = 9 + 10 then (x_bd (f_X9_status v2 (x_i M v0 (v3 + (1 : Int32)).toNatClampNeg) M) (f_L_law_c1511 κ18 v0 v1 v2 v3 s0)) else none) else none) else none
set_option maxRecDepth 20000 in
set_option maxHeartbeats 4000000 in
theorem t_L_law_c1502 (l : Launch) {κ18 : Nat → Nat → Nat → Int32 → XM → Option (Int32 × XM)} {v0 : Nat} {v1 : Nat} {v2 : Nat} {v3 : Int32} {s0 : Int32} {M : XM} {q : Int32 × XM} (hκ18 : ∀ (v0 : Nat) (v1 : Nat) (v2 : Nat) (v3 : Int32) (M : XM), κ18 v0 v1 v2 v3 M = some q → AW l m_L_law 33 600000 7302250 (x_Ri q) 90 14893 18 [some (.ref v0), some (.ref v1), some (.ref v2), some (.int v3)] [] M) (H : f_L_law_c1502 κ18 v0 v1 v2 v3 s0 M = some q) : AW l m_L_law 33 600000 7302250 (x_Ri q) 90 14893 1505 [some (.ref v0), some (.ref v1), some (.ref v2), some (.int v3)] [(.int s0)] M := by
  unfold f_L_law_c1502 at H
  refine x_aload_n 1505 2 dL_law_1505 rfl rfl ?_
  refine x_aload_n 1506 0 dL_law_1506 rfl rfl ?_
  refine x_iload_n 1507 3 dL_law_1507 rfl rfl ?_
  refine x_iconst 1508 (1 : Int32) dL_law_1508 (by decide) ?_
  refine x_iadd 1509 dL_law_1509 ?_
  obtain ⟨h640, H⟩ := x_ckp H
  obtain ⟨h641, H⟩ := x_ckp H
  refine x_siald 1510 dL_law_1510 h640 h641 ?_
  obtain ⟨h642, H⟩ := x_ckp H
  obtain ⟨r644, M643, e645, H⟩ := x_bd_of H
  refine x_callV 1511 181 9 [(.int (x_i M v0 (v3 + (1 : Int32)).toNatClampNeg))] [(.int s0)] dL_law_1511 (ct_X9_status l e645) lk_1509 lk_1510 lk_1511 (by decide) h642 lk_94 lk_1512 ⟨cn_X9_status, (by decide), by decide⟩ rfl (Nat.le_of_ble_eq_true rfl) (Nat.le_of_ble_eq_true rfl) (Nat.le_of_ble_eq_true rfl) (x_ri ?_)
  exact t_L_law_c1511 l hκ18 H

def f_L_law_1496 (κ18 : Nat → Nat → Nat → Int32 → XM → Option (Int32 × XM)) (v0 : Nat) (v1 : Nat) (v2 : Nat) (v3 : Int32) (M : XM) : Option (Int32 × XM) :=
  if x_at M v0 5 (v3 + (1 : Int32)) = true then (if v0 < 20 then (if x_tag M v1 = 8 + 10 then (x_bd (f_X8_status v1 (x_i M v0 (v3 + (1 : Int32)).toNatClampNeg) M) (f_L_law_c1502 κ18 v0 v1 v2 v3)) else none) else none) else none
set_option maxRecDepth 20000 in
set_option maxHeartbeats 4000000 in
theorem t_L_law_1496 (l : Launch) {κ18 : Nat → Nat → Nat → Int32 → XM → Option (Int32 × XM)} {v0 : Nat} {v1 : Nat} {v2 : Nat} {v3 : Int32} {M : XM} {q : Int32 × XM} (hκ18 : ∀ (v0 : Nat) (v1 : Nat) (v2 : Nat) (v3 : Int32) (M : XM), κ18 v0 v1 v2 v3 M = some q → AW l m_L_law 33 600000 7302250 (x_Ri q) 90 14893 18 [some (.ref v0), some (.ref v1), some (.ref v2), some (.int v3)] [] M) (H : f_L_law_1496 κ18 v0 v1 v2 v3 M = some q) : AW l m_L_law 33 600000 7302250 (x_Ri q) 90 14893 1496 [some (.ref v0), some (.ref v1), some (.ref v2), some (.int v3)] [] M := by
  unfold f_L_law_1496 at H
  refine x_aload_n 1496 1 dL_law_1496 rfl rfl ?_
  refine x_aload_n 1497 0 dL_law_1497 rfl rfl ?_
  refine x_iload_n 1498 3 dL_law_1498 rfl rfl ?_
  refine x_iconst 1499 (1 : Int32) dL_law_1499 (by decide) ?_
  refine x_iadd 1500 dL_law_1500 ?_
  obtain ⟨h634, H⟩ := x_ckp H
  obtain ⟨h635, H⟩ := x_ckp H
  refine x_siald 1501 dL_law_1501 h634 h635 ?_
  obtain ⟨h636, H⟩ := x_ckp H
  obtain ⟨r638, M637, e639, H⟩ := x_bd_of H
  refine x_callV 1502 178 8 [(.int (x_i M v0 (v3 + (1 : Int32)).toNatClampNeg))] [] dL_law_1502 (ct_X8_status l e639) lk_1019 lk_1020 lk_1021 (by decide) h636 lk_85 lk_1022 ⟨cn_X8_status, (by decide), by decide⟩ rfl (Nat.le_of_ble_eq_true rfl) (Nat.le_of_ble_eq_true rfl) (Nat.le_of_ble_eq_true rfl) (x_ri ?_)
  exact t_L_law_c1502 l hκ18 H

set_option maxRecDepth 20000 in
def bd_L_law_18 (κ18 : Nat → Nat → Nat → Int32 → XM → Option (Int32 × XM)) (v0 : Nat) (v1 : Nat) (v2 : Nat) (v3 : Int32) (M : XM) : Option (Int32 × XM) :=
  if x_tag M v0 = 5 then (if v0 < 20 then (if ((Int32.ofNat (x_len M v0)) - (6 : Int32)) < v3 then (some ((1 : Int32), M)) else (if x_at M v0 5 v3 = true then (if ((x_i M v0 v3.toNatClampNeg) &&& (63 : Int32)) = (0 : Int32) then (f_L_law_208 κ18 v0 v1 v2 v3 M) else if ((x_i M v0 v3.toNatClampNeg) &&& (63 : Int32)) = (1 : Int32) then (f_L_law_251 κ18 v0 v1 v2 v3 M) else if ((x_i M v0 v3.toNatClampNeg) &&& (63 : Int32)) = (2 : Int32) then (f_L_law_324 κ18 v0 v1 v2 v3 M) else if ((x_i M v0 v3.toNatClampNeg) &&& (63 : Int32)) = (3 : Int32) then (f_L_law_387 κ18 v0 v1 v2 v3 M) else if ((x_i M v0 v3.toNatClampNeg) &&& (63 : Int32)) = (4 : Int32) then (f_L_law_421 κ18 v0 v1 v2 v3 M) else if ((x_i M v0 v3.toNatClampNeg) &&& (63 : Int32)) = (5 : Int32) then (f_L_law_454 κ18 v0 v1 v2 v3 M) else if ((x_i M v0 v3.toNatClampNeg) &&& (63 : Int32)) = (6 : Int32) then (f_L_law_477 κ18 v0 v1 v2 v3 M) else if ((x_i M v0 v3.toNatClampNeg) &&& (63 : Int32)) = (7 : Int32) then (f_L_law_510 κ18 v0 v1 v2 v3 M) else if ((x_i M v0 v3.toNatClampNeg) &&& (63 : Int32)) = (8 : Int32) then (f_L_law_543 κ18 v0 v1 v2 v3 M) else if ((x_i M v0 v3.toNatClampNeg) &&& (63 : Int32)) = (9 : Int32) then (f_L_law_576 κ18 v0 v1 v2 v3 M) else if ((x_i M v0 v3.toNatClampNeg) &&& (63 : Int32)) = (10 : Int32) then (f_L_law_609 κ18 v0 v1 v2 v3 M) else if ((x_i M v0 v3.toNatClampNeg) &&& (63 : Int32)) = (11 : Int32) then (f_L_law_642 κ18 v0 v1 v2 v3 M) else if ((x_i M v0 v3.toNatClampNeg) &&& (63 : Int32)) = (12 : Int32) then (f_L_law_665 κ18 v0 v1 v2 v3 M) else if ((x_i M v0 v3.toNatClampNeg) &&& (63 : Int32)) = (13 : Int32) then (f_L_law_678 κ18 v0 v1 v2 v3 M) else if ((x_i M v0 v3.toNatClampNeg) &&& (63 : Int32)) = (14 : Int32) then (f_L_law_701 κ18 v0 v1 v2 v3 M) else if ((x_i M v0 v3.toNatClampNeg) &&& (63 : Int32)) = (15 : Int32) then (f_L_law_764 κ18 v0 v1 v2 v3 M) else if ((x_i M v0 v3.toNatClampNeg) &&& (63 : Int32)) = (16 : Int32) then (f_L_law_807 κ18 v0 v1 v2 v3 M) else if ((x_i M v0 v3.toNatClampNeg) &&& (63 : Int32)) = (17 : Int32) then (f_L_law_840 κ18 v0 v1 v2 v3 M) else if ((x_i M v0 v3.toNatClampNeg) &&& (63 : Int32)) = (18 : Int32) then (f_L_law_873 κ18 v0 v1 v2 v3 M) else if ((x_i M v0 v3.toNatClampNeg) &&& (63 : Int32)) = (19 : Int32) then (f_L_law_906 κ18 v0 v1 v2 v3 M) else if ((x_i M v0 v3.toNatClampNeg) &&& (63 : Int32)) = (20 : Int32) then (f_L_law_949 κ18 v0 v1 v2 v3 M) else if ((x_i M v0 v3.toNatClampNeg) &&& (63 : Int32)) = (21 : Int32) then (f_L_law_982 κ18 v0 v1 v2 v3 M) else if ((x_i M v0 v3.toNatClampNeg) &&& (63 : Int32)) = (22 : Int32) then (f_L_law_1015 κ18 v0 v1 v2 v3 M) else if ((x_i M v0 v3.toNatClampNeg) &&& (63 : Int32)) = (23 : Int32) then (f_L_law_1058 κ18 v0 v1 v2 v3 M) else if ((x_i M v0 v3.toNatClampNeg) &&& (63 : Int32)) = (24 : Int32) then (f_L_law_1101 κ18 v0 v1 v2 v3 M) else if ((x_i M v0 v3.toNatClampNeg) &&& (63 : Int32)) = (25 : Int32) then (f_L_law_1134 κ18 v0 v1 v2 v3 M) else if ((x_i M v0 v3.toNatClampNeg) &&& (63 : Int32)) = (26 : Int32) then (f_L_law_1157 κ18 v0 v1 v2 v3 M) else if ((x_i M v0 v3.toNatClampNeg) &&& (63 : Int32)) = (27 : Int32) then (f_L_law_1220 κ18 v0 v1 v2 v3 M) else if ((x_i M v0 v3.toNatClampNeg) &&& (63 : Int32)) = (28 : Int32) then (f_L_law_1243 κ18 v0 v1 v2 v3 M) else if ((x_i M v0 v3.toNatClampNeg) &&& (63 : Int32)) = (29 : Int32) then (f_L_law_1266 κ18 v0 v1 v2 v3 M) else if ((x_i M v0 v3.toNatClampNeg) &&& (63 : Int32)) = (30 : Int32) then (f_L_law_1279 κ18 v0 v1 v2 v3 M) else if ((x_i M v0 v3.toNatClampNeg) &&& (63 : Int32)) = (31 : Int32) then (f_L_law_1312 κ18 v0 v1 v2 v3 M) else if ((x_i M v0 v3.toNatClampNeg) &&& (63 : Int32)) = (32 : Int32) then (f_L_law_1335 κ18 v0 v1 v2 v3 M) else if ((x_i M v0 v3.toNatClampNeg) &&& (63 : Int32)) = (33 : Int32) then (f_L_law_1358 κ18 v0 v1 v2 v3 M) else if ((x_i M v0 v3.toNatClampNeg) &&& (63 : Int32)) = (34 : Int32) then (f_L_law_1381 κ18 v0 v1 v2 v3 M) else if ((x_i M v0 v3.toNatClampNeg) &&& (63 : Int32)) = (35 : Int32) then (f_L_law_1404 κ18 v0 v1 v2 v3 M) else if ((x_i M v0 v3.toNatClampNeg) &&& (63 : Int32)) = (36 : Int32) then (f_L_law_1447 κ18 v0 v1 v2 v3 M) else if ((x_i M v0 v3.toNatClampNeg) &&& (63 : Int32)) = (37 : Int32) then (f_L_law_1470 κ18 v0 v1 v2 v3 M) else if ((x_i M v0 v3.toNatClampNeg) &&& (63 : Int32)) = (38 : Int32) then (f_L_law_1483 κ18 v0 v1 v2 v3 M) else if ((x_i M v0 v3.toNatClampNeg) &&& (63 : Int32)) = (39 : Int32) then (f_L_law_1496 κ18 v0 v1 v2 v3 M) else f_L_law_1519 κ18 v0 v1 v2 v3 M) else none)) else none) else none
set_option maxRecDepth 20000 in
set_option maxHeartbeats 4000000 in
theorem tb_L_law_18 (l : Launch) {κ18 : Nat → Nat → Nat → Int32 → XM → Option (Int32 × XM)} {v0 : Nat} {v1 : Nat} {v2 : Nat} {v3 : Int32} {M : XM} {q : Int32 × XM} (hκ18 : ∀ (v0 : Nat) (v1 : Nat) (v2 : Nat) (v3 : Int32) (M : XM), κ18 v0 v1 v2 v3 M = some q → AW l m_L_law 33 600000 7302250 (x_Ri q) 90 14893 18 [some (.ref v0), some (.ref v1), some (.ref v2), some (.int v3)] [] M) (H : bd_L_law_18 κ18 v0 v1 v2 v3 M = some q) : AW l m_L_law 33 600000 7302250 (x_Ri q) 90 14893 18 [some (.ref v0), some (.ref v1), some (.ref v2), some (.int v3)] [] M := by
  unfold bd_L_law_18 at H
  refine x_iload_n 18 3 dL_law_18 rfl rfl ?_
  refine x_aload_n 19 0 dL_law_19 rfl rfl ?_
  obtain ⟨h17, H⟩ := x_ckp H
  obtain ⟨h18, H⟩ := x_ckp H
  refine x_salen 20 dL_law_20 h17 h18 ?_
  refine x_bipush 21 (6 : Int32) dL_law_21 (by decide) ?_
  refine x_isub 23 dL_law_23 ?_
  refine x_icmp_gt 24 1525 dL_law_24 (by decide) (fun c19 => ?_) (fun c19 => ?_)
  · replace H := x_ifp c19 H
    refine x_iconst 1525 (1 : Int32) dL_law_1525 (by decide) ?_
    cases H
    exact x_iret 1526 dL_law_1526 .boolean rfl rfl (Nat.le_of_ble_eq_true rfl) (Nat.le_of_ble_eq_true rfl) ⟨rfl, rfl⟩
  · replace H := x_ifn c19 H
    refine x_aload_n 27 0 dL_law_27 rfl rfl ?_
    refine x_iload_n 28 3 dL_law_28 rfl rfl ?_
    obtain ⟨h20, H⟩ := x_ckp H
    refine x_siald 29 dL_law_29 h20 h18 ?_
    refine x_bipush 30 (63 : Int32) dL_law_30 (by decide) ?_
    refine x_iand 32 dL_law_32 ?_
    by_cases c21 : ((x_i M v0 v3.toNatClampNeg) &&& (63 : Int32)) = (0 : Int32)
    · replace H := x_ifp c21 H
      refine x_tableIn (off := 175) 33 208 dL_law_33 (by rw [c21]; decide) (by rw [c21]; decide) (by rw [c21]; rfl) (by decide) ?_
      exact t_L_law_208 l hκ18 H
    · replace H := x_ifn c21 H
      by_cases c39 : ((x_i M v0 v3.toNatClampNeg) &&& (63 : Int32)) = (1 : Int32)
      · replace H := x_ifp c39 H
        refine x_tableIn (off := 218) 33 251 dL_law_33 (by rw [c39]; decide) (by rw [c39]; decide) (by rw [c39]; rfl) (by decide) ?_
        exact t_L_law_251 l hκ18 H
      · replace H := x_ifn c39 H
        by_cases c59 : ((x_i M v0 v3.toNatClampNeg) &&& (63 : Int32)) = (2 : Int32)
        · replace H := x_ifp c59 H
          refine x_tableIn (off := 291) 33 324 dL_law_33 (by rw [c59]; decide) (by rw [c59]; decide) (by rw [c59]; rfl) (by decide) ?_
          exact t_L_law_324 l hκ18 H
        · replace H := x_ifn c59 H
          by_cases c81 : ((x_i M v0 v3.toNatClampNeg) &&& (63 : Int32)) = (3 : Int32)
          · replace H := x_ifp c81 H
            refine x_tableIn (off := 354) 33 387 dL_law_33 (by rw [c81]; decide) (by rw [c81]; decide) (by rw [c81]; rfl) (by decide) ?_
            exact t_L_law_387 l hκ18 H
          · replace H := x_ifn c81 H
            by_cases c97 : ((x_i M v0 v3.toNatClampNeg) &&& (63 : Int32)) = (4 : Int32)
            · replace H := x_ifp c97 H
              refine x_tableIn (off := 388) 33 421 dL_law_33 (by rw [c97]; decide) (by rw [c97]; decide) (by rw [c97]; rfl) (by decide) ?_
              exact t_L_law_421 l hκ18 H
            · replace H := x_ifn c97 H
              by_cases c113 : ((x_i M v0 v3.toNatClampNeg) &&& (63 : Int32)) = (5 : Int32)
              · replace H := x_ifp c113 H
                refine x_tableIn (off := 421) 33 454 dL_law_33 (by rw [c113]; decide) (by rw [c113]; decide) (by rw [c113]; rfl) (by decide) ?_
                exact t_L_law_454 l hκ18 H
              · replace H := x_ifn c113 H
                by_cases c127 : ((x_i M v0 v3.toNatClampNeg) &&& (63 : Int32)) = (6 : Int32)
                · replace H := x_ifp c127 H
                  refine x_tableIn (off := 444) 33 477 dL_law_33 (by rw [c127]; decide) (by rw [c127]; decide) (by rw [c127]; rfl) (by decide) ?_
                  exact t_L_law_477 l hκ18 H
                · replace H := x_ifn c127 H
                  by_cases c143 : ((x_i M v0 v3.toNatClampNeg) &&& (63 : Int32)) = (7 : Int32)
                  · replace H := x_ifp c143 H
                    refine x_tableIn (off := 477) 33 510 dL_law_33 (by rw [c143]; decide) (by rw [c143]; decide) (by rw [c143]; rfl) (by decide) ?_
                    exact t_L_law_510 l hκ18 H
                  · replace H := x_ifn c143 H
                    by_cases c159 : ((x_i M v0 v3.toNatClampNeg) &&& (63 : Int32)) = (8 : Int32)
                    · replace H := x_ifp c159 H
                      refine x_tableIn (off := 510) 33 543 dL_law_33 (by rw [c159]; decide) (by rw [c159]; decide) (by rw [c159]; rfl) (by decide) ?_
                      exact t_L_law_543 l hκ18 H
                    · replace H := x_ifn c159 H
                      by_cases c175 : ((x_i M v0 v3.toNatClampNeg) &&& (63 : Int32)) = (9 : Int32)
                      · replace H := x_ifp c175 H
                        refine x_tableIn (off := 543) 33 576 dL_law_33 (by rw [c175]; decide) (by rw [c175]; decide) (by rw [c175]; rfl) (by decide) ?_
                        exact t_L_law_576 l hκ18 H
                      · replace H := x_ifn c175 H
                        by_cases c191 : ((x_i M v0 v3.toNatClampNeg) &&& (63 : Int32)) = (10 : Int32)
                        · replace H := x_ifp c191 H
                          refine x_tableIn (off := 576) 33 609 dL_law_33 (by rw [c191]; decide) (by rw [c191]; decide) (by rw [c191]; rfl) (by decide) ?_
                          exact t_L_law_609 l hκ18 H
                        · replace H := x_ifn c191 H
                          by_cases c207 : ((x_i M v0 v3.toNatClampNeg) &&& (63 : Int32)) = (11 : Int32)
                          · replace H := x_ifp c207 H
                            refine x_tableIn (off := 609) 33 642 dL_law_33 (by rw [c207]; decide) (by rw [c207]; decide) (by rw [c207]; rfl) (by decide) ?_
                            exact t_L_law_642 l hκ18 H
                          · replace H := x_ifn c207 H
                            by_cases c221 : ((x_i M v0 v3.toNatClampNeg) &&& (63 : Int32)) = (12 : Int32)
                            · replace H := x_ifp c221 H
                              refine x_tableIn (off := 632) 33 665 dL_law_33 (by rw [c221]; decide) (by rw [c221]; decide) (by rw [c221]; rfl) (by decide) ?_
                              exact t_L_law_665 l hκ18 H
                            · replace H := x_ifn c221 H
                              by_cases c231 : ((x_i M v0 v3.toNatClampNeg) &&& (63 : Int32)) = (13 : Int32)
                              · replace H := x_ifp c231 H
                                refine x_tableIn (off := 645) 33 678 dL_law_33 (by rw [c231]; decide) (by rw [c231]; decide) (by rw [c231]; rfl) (by decide) ?_
                                exact t_L_law_678 l hκ18 H
                              · replace H := x_ifn c231 H
                                by_cases c245 : ((x_i M v0 v3.toNatClampNeg) &&& (63 : Int32)) = (14 : Int32)
                                · replace H := x_ifp c245 H
                                  refine x_tableIn (off := 668) 33 701 dL_law_33 (by rw [c245]; decide) (by rw [c245]; decide) (by rw [c245]; rfl) (by decide) ?_
                                  exact t_L_law_701 l hκ18 H
                                · replace H := x_ifn c245 H
                                  by_cases c267 : ((x_i M v0 v3.toNatClampNeg) &&& (63 : Int32)) = (15 : Int32)
                                  · replace H := x_ifp c267 H
                                    refine x_tableIn (off := 731) 33 764 dL_law_33 (by rw [c267]; decide) (by rw [c267]; decide) (by rw [c267]; rfl) (by decide) ?_
                                    exact t_L_law_764 l hκ18 H
                                  · replace H := x_ifn c267 H
                                    by_cases c285 : ((x_i M v0 v3.toNatClampNeg) &&& (63 : Int32)) = (16 : Int32)
                                    · replace H := x_ifp c285 H
                                      refine x_tableIn (off := 774) 33 807 dL_law_33 (by rw [c285]; decide) (by rw [c285]; decide) (by rw [c285]; rfl) (by decide) ?_
                                      exact t_L_law_807 l hκ18 H
                                    · replace H := x_ifn c285 H
                                      by_cases c301 : ((x_i M v0 v3.toNatClampNeg) &&& (63 : Int32)) = (17 : Int32)
                                      · replace H := x_ifp c301 H
                                        refine x_tableIn (off := 807) 33 840 dL_law_33 (by rw [c301]; decide) (by rw [c301]; decide) (by rw [c301]; rfl) (by decide) ?_
                                        exact t_L_law_840 l hκ18 H
                                      · replace H := x_ifn c301 H
                                        by_cases c317 : ((x_i M v0 v3.toNatClampNeg) &&& (63 : Int32)) = (18 : Int32)
                                        · replace H := x_ifp c317 H
                                          refine x_tableIn (off := 840) 33 873 dL_law_33 (by rw [c317]; decide) (by rw [c317]; decide) (by rw [c317]; rfl) (by decide) ?_
                                          exact t_L_law_873 l hκ18 H
                                        · replace H := x_ifn c317 H
                                          by_cases c333 : ((x_i M v0 v3.toNatClampNeg) &&& (63 : Int32)) = (19 : Int32)
                                          · replace H := x_ifp c333 H
                                            refine x_tableIn (off := 873) 33 906 dL_law_33 (by rw [c333]; decide) (by rw [c333]; decide) (by rw [c333]; rfl) (by decide) ?_
                                            exact t_L_law_906 l hκ18 H
                                          · replace H := x_ifn c333 H
                                            by_cases c351 : ((x_i M v0 v3.toNatClampNeg) &&& (63 : Int32)) = (20 : Int32)
                                            · replace H := x_ifp c351 H
                                              refine x_tableIn (off := 916) 33 949 dL_law_33 (by rw [c351]; decide) (by rw [c351]; decide) (by rw [c351]; rfl) (by decide) ?_
                                              exact t_L_law_949 l hκ18 H
                                            · replace H := x_ifn c351 H
                                              by_cases c367 : ((x_i M v0 v3.toNatClampNeg) &&& (63 : Int32)) = (21 : Int32)
                                              · replace H := x_ifp c367 H
                                                refine x_tableIn (off := 949) 33 982 dL_law_33 (by rw [c367]; decide) (by rw [c367]; decide) (by rw [c367]; rfl) (by decide) ?_
                                                exact t_L_law_982 l hκ18 H
                                              · replace H := x_ifn c367 H
                                                by_cases c383 : ((x_i M v0 v3.toNatClampNeg) &&& (63 : Int32)) = (22 : Int32)
                                                · replace H := x_ifp c383 H
                                                  refine x_tableIn (off := 982) 33 1015 dL_law_33 (by rw [c383]; decide) (by rw [c383]; decide) (by rw [c383]; rfl) (by decide) ?_
                                                  exact t_L_law_1015 l hκ18 H
                                                · replace H := x_ifn c383 H
                                                  by_cases c401 : ((x_i M v0 v3.toNatClampNeg) &&& (63 : Int32)) = (23 : Int32)
                                                  · replace H := x_ifp c401 H
                                                    refine x_tableIn (off := 1025) 33 1058 dL_law_33 (by rw [c401]; decide) (by rw [c401]; decide) (by rw [c401]; rfl) (by decide) ?_
                                                    exact t_L_law_1058 l hκ18 H
                                                  · replace H := x_ifn c401 H
                                                    by_cases c419 : ((x_i M v0 v3.toNatClampNeg) &&& (63 : Int32)) = (24 : Int32)
                                                    · replace H := x_ifp c419 H
                                                      refine x_tableIn (off := 1068) 33 1101 dL_law_33 (by rw [c419]; decide) (by rw [c419]; decide) (by rw [c419]; rfl) (by decide) ?_
                                                      exact t_L_law_1101 l hκ18 H
                                                    · replace H := x_ifn c419 H
                                                      by_cases c435 : ((x_i M v0 v3.toNatClampNeg) &&& (63 : Int32)) = (25 : Int32)
                                                      · replace H := x_ifp c435 H
                                                        refine x_tableIn (off := 1101) 33 1134 dL_law_33 (by rw [c435]; decide) (by rw [c435]; decide) (by rw [c435]; rfl) (by decide) ?_
                                                        exact t_L_law_1134 l hκ18 H
                                                      · replace H := x_ifn c435 H
                                                        by_cases c449 : ((x_i M v0 v3.toNatClampNeg) &&& (63 : Int32)) = (26 : Int32)
                                                        · replace H := x_ifp c449 H
                                                          refine x_tableIn (off := 1124) 33 1157 dL_law_33 (by rw [c449]; decide) (by rw [c449]; decide) (by rw [c449]; rfl) (by decide) ?_
                                                          exact t_L_law_1157 l hκ18 H
                                                        · replace H := x_ifn c449 H
                                                          by_cases c471 : ((x_i M v0 v3.toNatClampNeg) &&& (63 : Int32)) = (27 : Int32)
                                                          · replace H := x_ifp c471 H
                                                            refine x_tableIn (off := 1187) 33 1220 dL_law_33 (by rw [c471]; decide) (by rw [c471]; decide) (by rw [c471]; rfl) (by decide) ?_
                                                            exact t_L_law_1220 l hκ18 H
                                                          · replace H := x_ifn c471 H
                                                            by_cases c485 : ((x_i M v0 v3.toNatClampNeg) &&& (63 : Int32)) = (28 : Int32)
                                                            · replace H := x_ifp c485 H
                                                              refine x_tableIn (off := 1210) 33 1243 dL_law_33 (by rw [c485]; decide) (by rw [c485]; decide) (by rw [c485]; rfl) (by decide) ?_
                                                              exact t_L_law_1243 l hκ18 H
                                                            · replace H := x_ifn c485 H
                                                              by_cases c499 : ((x_i M v0 v3.toNatClampNeg) &&& (63 : Int32)) = (29 : Int32)
                                                              · replace H := x_ifp c499 H
                                                                refine x_tableIn (off := 1233) 33 1266 dL_law_33 (by rw [c499]; decide) (by rw [c499]; decide) (by rw [c499]; rfl) (by decide) ?_
                                                                exact t_L_law_1266 l hκ18 H
                                                              · replace H := x_ifn c499 H
                                                                by_cases c509 : ((x_i M v0 v3.toNatClampNeg) &&& (63 : Int32)) = (30 : Int32)
                                                                · replace H := x_ifp c509 H
                                                                  refine x_tableIn (off := 1246) 33 1279 dL_law_33 (by rw [c509]; decide) (by rw [c509]; decide) (by rw [c509]; rfl) (by decide) ?_
                                                                  exact t_L_law_1279 l hκ18 H
                                                                · replace H := x_ifn c509 H
                                                                  by_cases c525 : ((x_i M v0 v3.toNatClampNeg) &&& (63 : Int32)) = (31 : Int32)
                                                                  · replace H := x_ifp c525 H
                                                                    refine x_tableIn (off := 1279) 33 1312 dL_law_33 (by rw [c525]; decide) (by rw [c525]; decide) (by rw [c525]; rfl) (by decide) ?_
                                                                    exact t_L_law_1312 l hκ18 H
                                                                  · replace H := x_ifn c525 H
                                                                    by_cases c539 : ((x_i M v0 v3.toNatClampNeg) &&& (63 : Int32)) = (32 : Int32)
                                                                    · replace H := x_ifp c539 H
                                                                      refine x_tableIn (off := 1302) 33 1335 dL_law_33 (by rw [c539]; decide) (by rw [c539]; decide) (by rw [c539]; rfl) (by decide) ?_
                                                                      exact t_L_law_1335 l hκ18 H
                                                                    · replace H := x_ifn c539 H
                                                                      by_cases c553 : ((x_i M v0 v3.toNatClampNeg) &&& (63 : Int32)) = (33 : Int32)
                                                                      · replace H := x_ifp c553 H
                                                                        refine x_tableIn (off := 1325) 33 1358 dL_law_33 (by rw [c553]; decide) (by rw [c553]; decide) (by rw [c553]; rfl) (by decide) ?_
                                                                        exact t_L_law_1358 l hκ18 H
                                                                      · replace H := x_ifn c553 H
                                                                        by_cases c567 : ((x_i M v0 v3.toNatClampNeg) &&& (63 : Int32)) = (34 : Int32)
                                                                        · replace H := x_ifp c567 H
                                                                          refine x_tableIn (off := 1348) 33 1381 dL_law_33 (by rw [c567]; decide) (by rw [c567]; decide) (by rw [c567]; rfl) (by decide) ?_
                                                                          exact t_L_law_1381 l hκ18 H
                                                                        · replace H := x_ifn c567 H
                                                                          by_cases c581 : ((x_i M v0 v3.toNatClampNeg) &&& (63 : Int32)) = (35 : Int32)
                                                                          · replace H := x_ifp c581 H
                                                                            refine x_tableIn (off := 1371) 33 1404 dL_law_33 (by rw [c581]; decide) (by rw [c581]; decide) (by rw [c581]; rfl) (by decide) ?_
                                                                            exact t_L_law_1404 l hκ18 H
                                                                          · replace H := x_ifn c581 H
                                                                            by_cases c599 : ((x_i M v0 v3.toNatClampNeg) &&& (63 : Int32)) = (36 : Int32)
                                                                            · replace H := x_ifp c599 H
                                                                              refine x_tableIn (off := 1414) 33 1447 dL_law_33 (by rw [c599]; decide) (by rw [c599]; decide) (by rw [c599]; rfl) (by decide) ?_
                                                                              exact t_L_law_1447 l hκ18 H
                                                                            · replace H := x_ifn c599 H
                                                                              by_cases c613 : ((x_i M v0 v3.toNatClampNeg) &&& (63 : Int32)) = (37 : Int32)
                                                                              · replace H := x_ifp c613 H
                                                                                refine x_tableIn (off := 1437) 33 1470 dL_law_33 (by rw [c613]; decide) (by rw [c613]; decide) (by rw [c613]; rfl) (by decide) ?_
                                                                                exact t_L_law_1470 l hκ18 H
                                                                              · replace H := x_ifn c613 H
                                                                                by_cases c623 : ((x_i M v0 v3.toNatClampNeg) &&& (63 : Int32)) = (38 : Int32)
                                                                                · replace H := x_ifp c623 H
                                                                                  refine x_tableIn (off := 1450) 33 1483 dL_law_33 (by rw [c623]; decide) (by rw [c623]; decide) (by rw [c623]; rfl) (by decide) ?_
                                                                                  exact t_L_law_1483 l hκ18 H
                                                                                · replace H := x_ifn c623 H
                                                                                  by_cases c633 : ((x_i M v0 v3.toNatClampNeg) &&& (63 : Int32)) = (39 : Int32)
                                                                                  · replace H := x_ifp c633 H
                                                                                    refine x_tableIn (off := 1463) 33 1496 dL_law_33 (by rw [c633]; decide) (by rw [c633]; decide) (by rw [c633]; rfl) (by decide) ?_
                                                                                    exact t_L_law_1496 l hκ18 H
                                                                                  · replace H := x_ifn c633 H
                                                                                    refine x_tableOut 33 1519 dL_law_33 (by have n0 := lv_neT (a := 0) c21 (by decide); have n1 := lv_neT (a := 1) c39 (by decide); have n2 := lv_neT (a := 2) c59 (by decide); have n3 := lv_neT (a := 3) c81 (by decide); have n4 := lv_neT (a := 4) c97 (by decide); have n5 := lv_neT (a := 5) c113 (by decide); have n6 := lv_neT (a := 6) c127 (by decide); have n7 := lv_neT (a := 7) c143 (by decide); have n8 := lv_neT (a := 8) c159 (by decide); have n9 := lv_neT (a := 9) c175 (by decide); have n10 := lv_neT (a := 10) c191 (by decide); have n11 := lv_neT (a := 11) c207 (by decide); have n12 := lv_neT (a := 12) c221 (by decide); have n13 := lv_neT (a := 13) c231 (by decide); have n14 := lv_neT (a := 14) c245 (by decide); have n15 := lv_neT (a := 15) c267 (by decide); have n16 := lv_neT (a := 16) c285 (by decide); have n17 := lv_neT (a := 17) c301 (by decide); have n18 := lv_neT (a := 18) c317 (by decide); have n19 := lv_neT (a := 19) c333 (by decide); have n20 := lv_neT (a := 20) c351 (by decide); have n21 := lv_neT (a := 21) c367 (by decide); have n22 := lv_neT (a := 22) c383 (by decide); have n23 := lv_neT (a := 23) c401 (by decide); have n24 := lv_neT (a := 24) c419 (by decide); have n25 := lv_neT (a := 25) c435 (by decide); have n26 := lv_neT (a := 26) c449 (by decide); have n27 := lv_neT (a := 27) c471 (by decide); have n28 := lv_neT (a := 28) c485 (by decide); have n29 := lv_neT (a := 29) c499 (by decide); have n30 := lv_neT (a := 30) c509 (by decide); have n31 := lv_neT (a := 31) c525 (by decide); have n32 := lv_neT (a := 32) c539 (by decide); have n33 := lv_neT (a := 33) c553 (by decide); have n34 := lv_neT (a := 34) c567 (by decide); have n35 := lv_neT (a := 35) c581 (by decide); have n36 := lv_neT (a := 36) c599 (by decide); have n37 := lv_neT (a := 37) c613 (by decide); have n38 := lv_neT (a := 38) c623 (by decide); have n39 := lv_neT (a := 39) c633 (by decide); omega) (by decide) ?_
                                                                                    exact t_L_law_1519 l hκ18 H

def lp_L_law_18 (n : Nat) : Nat → Nat → Nat → Int32 → XM → Option (Int32 × XM) := x_rec (fun _ _ _ _ _ => none) (bd_L_law_18) n
theorem t_L_law_18 (l : Launch) {q : Int32 × XM} : ∀ (n : Nat) (v0 : Nat) (v1 : Nat) (v2 : Nat) (v3 : Int32) (M : XM), lp_L_law_18 n v0 v1 v2 v3 M = some q → AW l m_L_law 33 600000 7302250 (x_Ri q) 90 14893 18 [some (.ref v0), some (.ref v1), some (.ref v2), some (.int v3)] [] M := by
  intro n
  induction n with
  | zero => intro v0 v1 v2 v3 M H; cases H
  | succ n ih => intro v0 v1 v2 v3 M H; exact tb_L_law_18 l ih H
def f_L_law_c12 (v0 : Nat) (v1 : Nat) (s0 : Nat) (M : XM) : Option (Int32 × XM) :=
  lp_L_law_18 x_fuel v0 v1 s0 (0 : Int32) M
set_option maxRecDepth 20000 in
set_option maxHeartbeats 4000000 in
theorem t_L_law_c12 (l : Launch) {v0 : Nat} {v1 : Nat} {s0 : Nat} {M : XM} {q : Int32 × XM} (H : f_L_law_c12 v0 v1 s0 M = some q) : AW l m_L_law 33 600000 7302250 (x_Ri q) 90 14893 15 [some (.ref v0), some (.ref v1), none, none] [(.ref s0)] M := by
  unfold f_L_law_c12 at H
  refine x_astore_n 15 2 [some (.ref v0), some (.ref v1), some (.ref s0), none] dL_law_15 rfl rfl (Nat.le_of_ble_eq_true rfl) rfl ?_
  refine x_iconst 16 (0 : Int32) dL_law_16 (by decide) ?_
  refine x_istore_n 17 3 [some (.ref v0), some (.ref v1), some (.ref s0), some (.int (0 : Int32))] dL_law_17 rfl rfl (Nat.le_of_ble_eq_true rfl) rfl ?_
  exact t_L_law_18 l _ _ _ _ _ _ H

def f_L_law_c4 (v0 : Nat) (s0 : Nat) (M : XM) : Option (Int32 × XM) :=
  x_al M (9 + 10) 0 (fun a10 M9 => x_bv (f_X9_init a10 M9) (f_L_law_c12 v0 s0 a10))
set_option maxRecDepth 20000 in
set_option maxHeartbeats 4000000 in
theorem t_L_law_c4 (l : Launch) {v0 : Nat} {s0 : Nat} {M : XM} {q : Int32 × XM} (H : f_L_law_c4 v0 s0 M = some q) : AW l m_L_law 33 600000 7302250 (x_Ri q) 68 8745 7 [some (.ref v0), none, none, none] [(.ref s0)] M := by
  unfold f_L_law_c4 at H
  refine x_astore_n 7 1 [some (.ref v0), some (.ref s0), none, none] dL_law_7 rfl rfl (Nat.le_of_ble_eq_true rfl) rfl ?_
  obtain ⟨a10, M9, w11, w12, H⟩ := x_al_of H
  refine x_newc' 8 10 9 dL_law_8 (by decide) lk_1024 lk_1025 lk_94 (Nat.le_of_ble_eq_true rfl) (Nat.le_of_ble_eq_true rfl) w11 w12 ?_
  have h13 : x_tag M9 a10 = 9 + 10 := x_al_tag w11 w12
  change AW _ _ _ _ _ _ 69 8787 _ _ _ _
  refine x_dup 11 dL_law_11 rfl ?_
  obtain ⟨M14, e16, H⟩ := x_bv_of H
  refine x_callI 12 12 [] [(.ref a10)] dL_law_12 (ct_X9_init l e16) lk_1026 rfl rfl lk_1027 h13 lk_94 lk_1028 ⟨cn_X9_init, (by decide), by decide⟩ rfl (Nat.le_of_ble_eq_true rfl) (Nat.le_of_ble_eq_true rfl) (Nat.le_of_ble_eq_true rfl) (x_rv ?_)
  change AW _ _ _ _ _ _ 90 14893 _ _ _ _
  exact t_L_law_c12 l H

def f_L_law (v0 : Nat) (M : XM) : Option (Int32 × XM) :=
  x_al M (8 + 10) 0 (fun a2 M1 => x_bv (f_X8_init a2 M1) (f_L_law_c4 v0 a2))
set_option maxRecDepth 20000 in
set_option maxHeartbeats 4000000 in
theorem t_L_law (l : Launch) {v0 : Nat} {M : XM} {q : Int32 × XM} (H : f_L_law v0 M = some q) : AW l m_L_law 33 600000 7302250 (x_Ri q) 0 0 0 [some (.ref v0), none, none, none] [] M := by
  unfold f_L_law at H
  obtain ⟨a2, M1, w3, w4, H⟩ := x_al_of H
  refine x_newc' 0 7 8 dL_law_0 (by decide) lk_102 lk_103 lk_85 (Nat.le_of_ble_eq_true rfl) (Nat.le_of_ble_eq_true rfl) w3 w4 ?_
  have h5 : x_tag M1 a2 = 8 + 10 := x_al_tag w3 w4
  change AW _ _ _ _ _ _ 1 14 _ _ _ _
  refine x_dup 3 dL_law_3 rfl ?_
  obtain ⟨M6, e8, H⟩ := x_bv_of H
  refine x_callI 4 9 [] [(.ref a2)] dL_law_4 (ct_X8_init l e8) lk_104 rfl rfl lk_105 h5 lk_85 lk_106 ⟨cn_X8_init, (by decide), by decide⟩ rfl (Nat.le_of_ble_eq_true rfl) (Nat.le_of_ble_eq_true rfl) (Nat.le_of_ble_eq_true rfl) (x_rv ?_)
  change AW _ _ _ _ _ _ 68 8745 _ _ _ _
  exact t_L_law_c4 l H

