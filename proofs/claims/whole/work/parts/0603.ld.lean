theorem dL_parse_0 : decode cL_parse 0 = .ok (.aload_n 2, 1) := by decide +kernel
theorem dL_parse_1 : decode cL_parse 1 = .ok (.iconst 0, 1) := by decide +kernel
theorem dL_parse_2 : decode cL_parse 2 = .ok (.aload_n 0, 1) := by decide +kernel
theorem dL_parse_3 : decode cL_parse 3 = .ok (.iload_n 1, 1) := by decide +kernel
theorem dL_parse_4 : decode cL_parse 4 = .ok (.invokevirtual 7, 3) := by decide +kernel
theorem dL_parse_7 : decode cL_parse 7 = .ok (.i2l, 1) := by decide +kernel
theorem dL_parse_8 : decode cL_parse 8 = .ok (.lastore, 1) := by decide +kernel
theorem dL_parse_9 : decode cL_parse 9 = .ok (.goto 6, 3) := by decide +kernel
theorem dL_parse_12 : decode cL_parse 12 = .ok (.astore_n 3, 1) := by decide +kernel
theorem dL_parse_13 : decode cL_parse 13 = .ok (.iconst 1, 1) := by decide +kernel
theorem dL_parse_14 : decode cL_parse 14 = .ok (.ireturn, 1) := by decide +kernel
theorem dL_parse_15 : decode cL_parse 15 = .ok (.iconst 0, 1) := by decide +kernel
theorem dL_parse_16 : decode cL_parse 16 = .ok (.ireturn, 1) := by decide +kernel
theorem dL_size_0 : decode cL_size 0 = .ok (.aload_n 2, 1) := by decide +kernel
theorem dL_size_1 : decode cL_size 1 = .ok (.iconst 0, 1) := by decide +kernel
theorem dL_size_2 : decode cL_size 2 = .ok (.aload_n 0, 1) := by decide +kernel
theorem dL_size_3 : decode cL_size 3 = .ok (.iload_n 1, 1) := by decide +kernel
theorem dL_size_4 : decode cL_size 4 = .ok (.invokevirtual 15, 3) := by decide +kernel
theorem dL_size_7 : decode cL_size 7 = .ok (.i2l, 1) := by decide +kernel
theorem dL_size_8 : decode cL_size 8 = .ok (.lastore, 1) := by decide +kernel
theorem dL_size_9 : decode cL_size 9 = .ok (.goto 6, 3) := by decide +kernel
theorem dL_size_12 : decode cL_size 12 = .ok (.astore_n 3, 1) := by decide +kernel
theorem dL_size_13 : decode cL_size 13 = .ok (.iconst 1, 1) := by decide +kernel
theorem dL_size_14 : decode cL_size 14 = .ok (.ireturn, 1) := by decide +kernel
theorem dL_size_15 : decode cL_size 15 = .ok (.iconst 0, 1) := by decide +kernel
theorem dL_size_16 : decode cL_size 16 = .ok (.ireturn, 1) := by decide +kernel
theorem dL_between_0 : decode cL_between 0 = .ok (.aload_n 3, 1) := by decide +kernel
theorem dL_between_1 : decode cL_between 1 = .ok (.iconst 0, 1) := by decide +kernel
theorem dL_between_2 : decode cL_between 2 = .ok (.aload_n 0, 1) := by decide +kernel
theorem dL_between_3 : decode cL_between 3 = .ok (.iload_n 1, 1) := by decide +kernel
theorem dL_between_4 : decode cL_between 4 = .ok (.iload_n 2, 1) := by decide +kernel
theorem dL_between_5 : decode cL_between 5 = .ok (.invokevirtual 18, 3) := by decide +kernel
theorem dL_between_8 : decode cL_between 8 = .ok (.i2l, 1) := by decide +kernel
theorem dL_between_9 : decode cL_between 9 = .ok (.lastore, 1) := by decide +kernel
theorem dL_between_10 : decode cL_between 10 = .ok (.goto 7, 3) := by decide +kernel
theorem dL_between_13 : decode cL_between 13 = .ok (.astore 4, 2) := by decide +kernel
theorem dL_between_15 : decode cL_between 15 = .ok (.iconst 1, 1) := by decide +kernel
theorem dL_between_16 : decode cL_between 16 = .ok (.ireturn, 1) := by decide +kernel
theorem dL_between_17 : decode cL_between 17 = .ok (.iconst 0, 1) := by decide +kernel
theorem dL_between_18 : decode cL_between 18 = .ok (.ireturn, 1) := by decide +kernel
theorem dL_travel_0 : decode cL_travel 0 = .ok (.aload_n 3, 1) := by decide +kernel
theorem dL_travel_1 : decode cL_travel 1 = .ok (.iconst 0, 1) := by decide +kernel
theorem dL_travel_2 : decode cL_travel 2 = .ok (.aload_n 0, 1) := by decide +kernel
theorem dL_travel_3 : decode cL_travel 3 = .ok (.iload_n 1, 1) := by decide +kernel
theorem dL_travel_4 : decode cL_travel 4 = .ok (.iload_n 2, 1) := by decide +kernel
theorem dL_travel_5 : decode cL_travel 5 = .ok (.invokevirtual 24, 3) := by decide +kernel
theorem dL_travel_8 : decode cL_travel 8 = .ok (.i2l, 1) := by decide +kernel
theorem dL_travel_9 : decode cL_travel 9 = .ok (.lastore, 1) := by decide +kernel
theorem dL_travel_10 : decode cL_travel 10 = .ok (.goto 7, 3) := by decide +kernel
theorem dL_travel_13 : decode cL_travel 13 = .ok (.astore 4, 2) := by decide +kernel
theorem dL_travel_15 : decode cL_travel 15 = .ok (.iconst 1, 1) := by decide +kernel
theorem dL_travel_16 : decode cL_travel 16 = .ok (.ireturn, 1) := by decide +kernel
theorem dL_travel_17 : decode cL_travel 17 = .ok (.iconst 0, 1) := by decide +kernel
theorem dL_travel_18 : decode cL_travel 18 = .ok (.ireturn, 1) := by decide +kernel
theorem dL_ladder_0 : decode cL_ladder 0 = .ok (.aload_n 2, 1) := by decide +kernel
theorem dL_ladder_1 : decode cL_ladder 1 = .ok (.iconst 0, 1) := by decide +kernel
theorem dL_ladder_2 : decode cL_ladder 2 = .ok (.aload_n 0, 1) := by decide +kernel
theorem dL_ladder_3 : decode cL_ladder 3 = .ok (.iload_n 1, 1) := by decide +kernel
theorem dL_ladder_4 : decode cL_ladder 4 = .ok (.invokevirtual 27, 3) := by decide +kernel
theorem dL_ladder_7 : decode cL_ladder 7 = .ok (.i2l, 1) := by decide +kernel
theorem dL_ladder_8 : decode cL_ladder 8 = .ok (.lastore, 1) := by decide +kernel
theorem dL_ladder_9 : decode cL_ladder 9 = .ok (.goto 6, 3) := by decide +kernel
theorem dL_ladder_12 : decode cL_ladder 12 = .ok (.astore_n 3, 1) := by decide +kernel
theorem dL_ladder_13 : decode cL_ladder 13 = .ok (.iconst 1, 1) := by decide +kernel
theorem dL_ladder_14 : decode cL_ladder 14 = .ok (.ireturn, 1) := by decide +kernel
theorem dL_ladder_15 : decode cL_ladder 15 = .ok (.iconst 0, 1) := by decide +kernel
theorem dL_ladder_16 : decode cL_ladder 16 = .ok (.ireturn, 1) := by decide +kernel
theorem dL_station_0 : decode cL_station 0 = .ok (.aload_n 3, 1) := by decide +kernel
theorem dL_station_1 : decode cL_station 1 = .ok (.iconst 0, 1) := by decide +kernel
theorem dL_station_2 : decode cL_station 2 = .ok (.aload_n 0, 1) := by decide +kernel
theorem dL_station_3 : decode cL_station 3 = .ok (.iload_n 1, 1) := by decide +kernel
theorem dL_station_4 : decode cL_station 4 = .ok (.iload_n 2, 1) := by decide +kernel
theorem dL_station_5 : decode cL_station 5 = .ok (.invokevirtual 30, 3) := by decide +kernel
theorem dL_station_8 : decode cL_station 8 = .ok (.i2l, 1) := by decide +kernel
theorem dL_station_9 : decode cL_station 9 = .ok (.lastore, 1) := by decide +kernel
theorem dL_station_10 : decode cL_station 10 = .ok (.goto 11, 3) := by decide +kernel
theorem dL_station_13 : decode cL_station 13 = .ok (.astore 4, 2) := by decide +kernel
theorem dL_station_15 : decode cL_station 15 = .ok (.iconst 1, 1) := by decide +kernel
theorem dL_station_16 : decode cL_station 16 = .ok (.ireturn, 1) := by decide +kernel
theorem dL_station_17 : decode cL_station 17 = .ok (.astore 4, 2) := by decide +kernel
theorem dL_station_19 : decode cL_station 19 = .ok (.iconst 2, 1) := by decide +kernel
theorem dL_station_20 : decode cL_station 20 = .ok (.ireturn, 1) := by decide +kernel
theorem dL_station_21 : decode cL_station 21 = .ok (.iconst 0, 1) := by decide +kernel
theorem dL_station_22 : decode cL_station 22 = .ok (.ireturn, 1) := by decide +kernel
theorem dL_pick_0 : decode cL_pick 0 = .ok (.aload_n 3, 1) := by decide +kernel
theorem dL_pick_1 : decode cL_pick 1 = .ok (.iconst 0, 1) := by decide +kernel
theorem dL_pick_2 : decode cL_pick 2 = .ok (.aload_n 0, 1) := by decide +kernel
theorem dL_pick_3 : decode cL_pick 3 = .ok (.iload_n 1, 1) := by decide +kernel
theorem dL_pick_4 : decode cL_pick 4 = .ok (.iload_n 2, 1) := by decide +kernel
theorem dL_pick_5 : decode cL_pick 5 = .ok (.invokevirtual 33, 3) := by decide +kernel
theorem dL_pick_8 : decode cL_pick 8 = .ok (.i2l, 1) := by decide +kernel
theorem dL_pick_9 : decode cL_pick 9 = .ok (.lastore, 1) := by decide +kernel
theorem dL_pick_10 : decode cL_pick 10 = .ok (.goto 11, 3) := by decide +kernel
theorem dL_pick_13 : decode cL_pick 13 = .ok (.astore 4, 2) := by decide +kernel
theorem dL_pick_15 : decode cL_pick 15 = .ok (.iconst 1, 1) := by decide +kernel
theorem dL_pick_16 : decode cL_pick 16 = .ok (.ireturn, 1) := by decide +kernel
theorem dL_pick_17 : decode cL_pick 17 = .ok (.astore 4, 2) := by decide +kernel
theorem dL_pick_19 : decode cL_pick 19 = .ok (.iconst 2, 1) := by decide +kernel
theorem dL_pick_20 : decode cL_pick 20 = .ok (.ireturn, 1) := by decide +kernel
theorem dL_pick_21 : decode cL_pick 21 = .ok (.iconst 0, 1) := by decide +kernel
theorem dL_pick_22 : decode cL_pick 22 = .ok (.ireturn, 1) := by decide +kernel
theorem dL_fits_0 : decode cL_fits 0 = .ok (.aload_n 3, 1) := by decide +kernel
theorem dL_fits_1 : decode cL_fits 1 = .ok (.iconst 0, 1) := by decide +kernel
theorem dL_fits_2 : decode cL_fits 2 = .ok (.aload_n 0, 1) := by decide +kernel
theorem dL_fits_3 : decode cL_fits 3 = .ok (.iload_n 1, 1) := by decide +kernel
theorem dL_fits_4 : decode cL_fits 4 = .ok (.iload_n 2, 1) := by decide +kernel
theorem dL_fits_5 : decode cL_fits 5 = .ok (.invokevirtual 36, 3) := by decide +kernel
theorem dL_fits_8 : decode cL_fits 8 = .ok (.ifCond .eq 7, 3) := by decide +kernel
theorem dL_fits_11 : decode cL_fits 11 = .ok (.lconst 1, 1) := by decide +kernel
theorem dL_fits_12 : decode cL_fits 12 = .ok (.goto 4, 3) := by decide +kernel
theorem dL_fits_15 : decode cL_fits 15 = .ok (.lconst 0, 1) := by decide +kernel
theorem dL_fits_16 : decode cL_fits 16 = .ok (.lastore, 1) := by decide +kernel
theorem dL_fits_17 : decode cL_fits 17 = .ok (.goto 7, 3) := by decide +kernel
theorem dL_fits_20 : decode cL_fits 20 = .ok (.astore 4, 2) := by decide +kernel
theorem dL_fits_22 : decode cL_fits 22 = .ok (.iconst 1, 1) := by decide +kernel
theorem dL_fits_23 : decode cL_fits 23 = .ok (.ireturn, 1) := by decide +kernel
theorem dL_fits_24 : decode cL_fits 24 = .ok (.iconst 0, 1) := by decide +kernel
theorem dL_fits_25 : decode cL_fits 25 = .ok (.ireturn, 1) := by decide +kernel
theorem dL_event_0 : decode cL_event 0 = .ok (.aload_n 3, 1) := by decide +kernel
theorem dL_event_1 : decode cL_event 1 = .ok (.iconst 0, 1) := by decide +kernel
theorem dL_event_2 : decode cL_event 2 = .ok (.aload_n 0, 1) := by decide +kernel
theorem dL_event_3 : decode cL_event 3 = .ok (.iload_n 1, 1) := by decide +kernel
theorem dL_event_4 : decode cL_event 4 = .ok (.iload_n 2, 1) := by decide +kernel
theorem dL_event_5 : decode cL_event 5 = .ok (.invokevirtual 40, 3) := by decide +kernel
theorem dL_event_8 : decode cL_event 8 = .ok (.i2l, 1) := by decide +kernel
theorem dL_event_9 : decode cL_event 9 = .ok (.lastore, 1) := by decide +kernel
theorem dL_event_10 : decode cL_event 10 = .ok (.goto 11, 3) := by decide +kernel
theorem dL_event_13 : decode cL_event 13 = .ok (.astore 4, 2) := by decide +kernel
theorem dL_event_15 : decode cL_event 15 = .ok (.iconst 1, 1) := by decide +kernel
theorem dL_event_16 : decode cL_event 16 = .ok (.ireturn, 1) := by decide +kernel
theorem dL_event_17 : decode cL_event 17 = .ok (.astore 4, 2) := by decide +kernel
theorem dL_event_19 : decode cL_event 19 = .ok (.iconst 2, 1) := by decide +kernel
theorem dL_event_20 : decode cL_event 20 = .ok (.ireturn, 1) := by decide +kernel
theorem dL_event_21 : decode cL_event 21 = .ok (.iconst 0, 1) := by decide +kernel
theorem dL_event_22 : decode cL_event 22 = .ok (.ireturn, 1) := by decide +kernel
theorem dL_eventPick_0 : decode cL_eventPick 0 = .ok (.aload_n 3, 1) := by decide +kernel
theorem dL_eventPick_1 : decode cL_eventPick 1 = .ok (.iconst 0, 1) := by decide +kernel
theorem dL_eventPick_2 : decode cL_eventPick 2 = .ok (.aload_n 0, 1) := by decide +kernel
theorem dL_eventPick_3 : decode cL_eventPick 3 = .ok (.iload_n 1, 1) := by decide +kernel
theorem dL_eventPick_4 : decode cL_eventPick 4 = .ok (.iload_n 2, 1) := by decide +kernel
theorem dL_eventPick_5 : decode cL_eventPick 5 = .ok (.invokevirtual 43, 3) := by decide +kernel
theorem dL_eventPick_8 : decode cL_eventPick 8 = .ok (.i2l, 1) := by decide +kernel
theorem dL_eventPick_9 : decode cL_eventPick 9 = .ok (.lastore, 1) := by decide +kernel
theorem dL_eventPick_10 : decode cL_eventPick 10 = .ok (.goto 7, 3) := by decide +kernel
theorem dL_eventPick_13 : decode cL_eventPick 13 = .ok (.astore 4, 2) := by decide +kernel
theorem dL_eventPick_15 : decode cL_eventPick 15 = .ok (.iconst 1, 1) := by decide +kernel
theorem dL_eventPick_16 : decode cL_eventPick 16 = .ok (.ireturn, 1) := by decide +kernel
theorem dL_eventPick_17 : decode cL_eventPick 17 = .ok (.iconst 0, 1) := by decide +kernel
theorem dL_eventPick_18 : decode cL_eventPick 18 = .ok (.ireturn, 1) := by decide +kernel
theorem dL_misfit_0 : decode cL_misfit 0 = .ok (.aload_n 3, 1) := by decide +kernel
theorem dL_misfit_1 : decode cL_misfit 1 = .ok (.iconst 0, 1) := by decide +kernel
theorem dL_misfit_2 : decode cL_misfit 2 = .ok (.aload_n 0, 1) := by decide +kernel
theorem dL_misfit_3 : decode cL_misfit 3 = .ok (.iload_n 1, 1) := by decide +kernel
theorem dL_misfit_4 : decode cL_misfit 4 = .ok (.iload_n 2, 1) := by decide +kernel
theorem dL_misfit_5 : decode cL_misfit 5 = .ok (.invokevirtual 46, 3) := by decide +kernel
theorem dL_misfit_8 : decode cL_misfit 8 = .ok (.i2l, 1) := by decide +kernel
theorem dL_misfit_9 : decode cL_misfit 9 = .ok (.lastore, 1) := by decide +kernel
theorem dL_misfit_10 : decode cL_misfit 10 = .ok (.goto 11, 3) := by decide +kernel
theorem dL_misfit_13 : decode cL_misfit 13 = .ok (.astore 4, 2) := by decide +kernel
theorem dL_misfit_15 : decode cL_misfit 15 = .ok (.iconst 1, 1) := by decide +kernel
theorem dL_misfit_16 : decode cL_misfit 16 = .ok (.ireturn, 1) := by decide +kernel
theorem dL_misfit_17 : decode cL_misfit 17 = .ok (.astore 4, 2) := by decide +kernel
theorem dL_misfit_19 : decode cL_misfit 19 = .ok (.iconst 2, 1) := by decide +kernel
theorem dL_misfit_20 : decode cL_misfit 20 = .ok (.ireturn, 1) := by decide +kernel
theorem dL_misfit_21 : decode cL_misfit 21 = .ok (.iconst 0, 1) := by decide +kernel
theorem dL_misfit_22 : decode cL_misfit 22 = .ok (.ireturn, 1) := by decide +kernel
theorem dL_describe_0 : decode cL_describe 0 = .ok (.aload_n 2, 1) := by decide +kernel
theorem dL_describe_1 : decode cL_describe 1 = .ok (.iconst 0, 1) := by decide +kernel
theorem dL_describe_2 : decode cL_describe 2 = .ok (.aload_n 0, 1) := by decide +kernel
theorem dL_describe_3 : decode cL_describe 3 = .ok (.iload_n 1, 1) := by decide +kernel
theorem dL_describe_4 : decode cL_describe 4 = .ok (.invokevirtual 51, 3) := by decide +kernel
theorem dL_describe_7 : decode cL_describe 7 = .ok (.i2l, 1) := by decide +kernel
theorem dL_describe_8 : decode cL_describe 8 = .ok (.lastore, 1) := by decide +kernel
theorem dL_describe_9 : decode cL_describe 9 = .ok (.goto 6, 3) := by decide +kernel
theorem dL_describe_12 : decode cL_describe 12 = .ok (.astore_n 3, 1) := by decide +kernel
theorem dL_describe_13 : decode cL_describe 13 = .ok (.iconst 1, 1) := by decide +kernel
theorem dL_describe_14 : decode cL_describe 14 = .ok (.ireturn, 1) := by decide +kernel
theorem dL_describe_15 : decode cL_describe 15 = .ok (.iconst 0, 1) := by decide +kernel
theorem dL_describe_16 : decode cL_describe 16 = .ok (.ireturn, 1) := by decide +kernel
theorem dL_ratioAfter_0 : decode cL_ratioAfter 0 = .ok (.aload 4, 2) := by decide +kernel
theorem dL_ratioAfter_2 : decode cL_ratioAfter 2 = .ok (.iconst 0, 1) := by decide +kernel
theorem dL_ratioAfter_3 : decode cL_ratioAfter 3 = .ok (.aload_n 0, 1) := by decide +kernel
theorem dL_ratioAfter_4 : decode cL_ratioAfter 4 = .ok (.iload_n 1, 1) := by decide +kernel
theorem dL_ratioAfter_5 : decode cL_ratioAfter 5 = .ok (.iload_n 2, 1) := by decide +kernel
theorem dL_ratioAfter_6 : decode cL_ratioAfter 6 = .ok (.iload_n 3, 1) := by decide +kernel
theorem dL_ratioAfter_7 : decode cL_ratioAfter 7 = .ok (.invokevirtual 54, 3) := by decide +kernel
theorem dL_ratioAfter_10 : decode cL_ratioAfter 10 = .ok (.i2l, 1) := by decide +kernel
theorem dL_ratioAfter_11 : decode cL_ratioAfter 11 = .ok (.lastore, 1) := by decide +kernel
theorem dL_ratioAfter_12 : decode cL_ratioAfter 12 = .ok (.goto 11, 3) := by decide +kernel
theorem dL_ratioAfter_15 : decode cL_ratioAfter 15 = .ok (.astore 5, 2) := by decide +kernel
theorem dL_ratioAfter_17 : decode cL_ratioAfter 17 = .ok (.iconst 1, 1) := by decide +kernel
theorem dL_ratioAfter_18 : decode cL_ratioAfter 18 = .ok (.ireturn, 1) := by decide +kernel
theorem dL_ratioAfter_19 : decode cL_ratioAfter 19 = .ok (.astore 5, 2) := by decide +kernel
theorem dL_ratioAfter_21 : decode cL_ratioAfter 21 = .ok (.iconst 2, 1) := by decide +kernel
theorem dL_ratioAfter_22 : decode cL_ratioAfter 22 = .ok (.ireturn, 1) := by decide +kernel
theorem dL_ratioAfter_23 : decode cL_ratioAfter 23 = .ok (.iconst 0, 1) := by decide +kernel
theorem dL_ratioAfter_24 : decode cL_ratioAfter 24 = .ok (.ireturn, 1) := by decide +kernel
theorem dL_eventsWithout_0 : decode cL_eventsWithout 0 = .ok (.aload_n 3, 1) := by decide +kernel
theorem dL_eventsWithout_1 : decode cL_eventsWithout 1 = .ok (.iconst 0, 1) := by decide +kernel
theorem dL_eventsWithout_2 : decode cL_eventsWithout 2 = .ok (.aload_n 0, 1) := by decide +kernel
theorem dL_eventsWithout_3 : decode cL_eventsWithout 3 = .ok (.iload_n 1, 1) := by decide +kernel
theorem dL_eventsWithout_4 : decode cL_eventsWithout 4 = .ok (.iload_n 2, 1) := by decide +kernel
theorem dL_eventsWithout_5 : decode cL_eventsWithout 5 = .ok (.invokevirtual 58, 3) := by decide +kernel
theorem dL_eventsWithout_8 : decode cL_eventsWithout 8 = .ok (.i2l, 1) := by decide +kernel
theorem dL_eventsWithout_9 : decode cL_eventsWithout 9 = .ok (.lastore, 1) := by decide +kernel
theorem dL_eventsWithout_10 : decode cL_eventsWithout 10 = .ok (.goto 15, 3) := by decide +kernel
theorem dL_eventsWithout_13 : decode cL_eventsWithout 13 = .ok (.astore 4, 2) := by decide +kernel
theorem dL_eventsWithout_15 : decode cL_eventsWithout 15 = .ok (.iconst 1, 1) := by decide +kernel
theorem dL_eventsWithout_16 : decode cL_eventsWithout 16 = .ok (.ireturn, 1) := by decide +kernel
theorem dL_eventsWithout_17 : decode cL_eventsWithout 17 = .ok (.astore 4, 2) := by decide +kernel
theorem dL_eventsWithout_19 : decode cL_eventsWithout 19 = .ok (.iconst 2, 1) := by decide +kernel
theorem dL_eventsWithout_20 : decode cL_eventsWithout 20 = .ok (.ireturn, 1) := by decide +kernel
theorem dL_eventsWithout_21 : decode cL_eventsWithout 21 = .ok (.astore 4, 2) := by decide +kernel
theorem dL_eventsWithout_23 : decode cL_eventsWithout 23 = .ok (.iconst 3, 1) := by decide +kernel
theorem dL_eventsWithout_24 : decode cL_eventsWithout 24 = .ok (.ireturn, 1) := by decide +kernel
theorem dL_eventsWithout_25 : decode cL_eventsWithout 25 = .ok (.iconst 0, 1) := by decide +kernel
theorem dL_eventsWithout_26 : decode cL_eventsWithout 26 = .ok (.ireturn, 1) := by decide +kernel
theorem dL_setLevel_0 : decode cL_setLevel 0 = .ok (.aload_n 3, 1) := by decide +kernel
theorem dL_setLevel_1 : decode cL_setLevel 1 = .ok (.iconst 0, 1) := by decide +kernel
theorem dL_setLevel_2 : decode cL_setLevel 2 = .ok (.aload_n 0, 1) := by decide +kernel
theorem dL_setLevel_3 : decode cL_setLevel 3 = .ok (.iload_n 1, 1) := by decide +kernel
theorem dL_setLevel_4 : decode cL_setLevel 4 = .ok (.iload_n 2, 1) := by decide +kernel
theorem dL_setLevel_5 : decode cL_setLevel 5 = .ok (.invokevirtual 61, 3) := by decide +kernel
theorem dL_setLevel_8 : decode cL_setLevel 8 = .ok (.i2l, 1) := by decide +kernel
theorem dL_setLevel_9 : decode cL_setLevel 9 = .ok (.lastore, 1) := by decide +kernel
theorem dL_setLevel_10 : decode cL_setLevel 10 = .ok (.goto 11, 3) := by decide +kernel
theorem dL_setLevel_13 : decode cL_setLevel 13 = .ok (.astore 4, 2) := by decide +kernel
theorem dL_setLevel_15 : decode cL_setLevel 15 = .ok (.iconst 1, 1) := by decide +kernel
theorem dL_setLevel_16 : decode cL_setLevel 16 = .ok (.ireturn, 1) := by decide +kernel
theorem dL_setLevel_17 : decode cL_setLevel 17 = .ok (.astore 4, 2) := by decide +kernel
theorem dL_setLevel_19 : decode cL_setLevel 19 = .ok (.iconst 2, 1) := by decide +kernel
theorem dL_setLevel_20 : decode cL_setLevel 20 = .ok (.ireturn, 1) := by decide +kernel
theorem dL_setLevel_21 : decode cL_setLevel 21 = .ok (.iconst 0, 1) := by decide +kernel
theorem dL_setLevel_22 : decode cL_setLevel 22 = .ok (.ireturn, 1) := by decide +kernel
theorem dL_pass_0 : decode cL_pass 0 = .ok (.aload_n 2, 1) := by decide +kernel
theorem dL_pass_1 : decode cL_pass 1 = .ok (.iconst 0, 1) := by decide +kernel
theorem dL_pass_2 : decode cL_pass 2 = .ok (.aload_n 0, 1) := by decide +kernel
theorem dL_pass_3 : decode cL_pass 3 = .ok (.iload_n 1, 1) := by decide +kernel
theorem dL_pass_4 : decode cL_pass 4 = .ok (.invokevirtual 64, 3) := by decide +kernel
theorem dL_pass_7 : decode cL_pass 7 = .ok (.i2l, 1) := by decide +kernel
theorem dL_pass_8 : decode cL_pass 8 = .ok (.lastore, 1) := by decide +kernel
theorem dL_pass_9 : decode cL_pass 9 = .ok (.goto 9, 3) := by decide +kernel
theorem dL_pass_12 : decode cL_pass 12 = .ok (.astore_n 3, 1) := by decide +kernel
theorem dL_pass_13 : decode cL_pass 13 = .ok (.iconst 1, 1) := by decide +kernel
theorem dL_pass_14 : decode cL_pass 14 = .ok (.ireturn, 1) := by decide +kernel
theorem dL_pass_15 : decode cL_pass 15 = .ok (.astore_n 3, 1) := by decide +kernel
theorem dL_pass_16 : decode cL_pass 16 = .ok (.iconst 2, 1) := by decide +kernel
theorem dL_pass_17 : decode cL_pass 17 = .ok (.ireturn, 1) := by decide +kernel
theorem dL_pass_18 : decode cL_pass 18 = .ok (.iconst 0, 1) := by decide +kernel
theorem dL_pass_19 : decode cL_pass 19 = .ok (.ireturn, 1) := by decide +kernel
theorem dL_mute_0 : decode cL_mute 0 = .ok (.aload_n 2, 1) := by decide +kernel
theorem dL_mute_1 : decode cL_mute 1 = .ok (.iconst 0, 1) := by decide +kernel
theorem dL_mute_2 : decode cL_mute 2 = .ok (.aload_n 0, 1) := by decide +kernel
theorem dL_mute_3 : decode cL_mute 3 = .ok (.iload_n 1, 1) := by decide +kernel
theorem dL_mute_4 : decode cL_mute 4 = .ok (.invokevirtual 67, 3) := by decide +kernel
theorem dL_mute_7 : decode cL_mute 7 = .ok (.i2l, 1) := by decide +kernel
theorem dL_mute_8 : decode cL_mute 8 = .ok (.lastore, 1) := by decide +kernel
theorem dL_mute_9 : decode cL_mute 9 = .ok (.goto 9, 3) := by decide +kernel
theorem dL_mute_12 : decode cL_mute 12 = .ok (.astore_n 3, 1) := by decide +kernel
theorem dL_mute_13 : decode cL_mute 13 = .ok (.iconst 1, 1) := by decide +kernel
theorem dL_mute_14 : decode cL_mute 14 = .ok (.ireturn, 1) := by decide +kernel
theorem dL_mute_15 : decode cL_mute 15 = .ok (.astore_n 3, 1) := by decide +kernel
theorem dL_mute_16 : decode cL_mute 16 = .ok (.iconst 2, 1) := by decide +kernel
theorem dL_mute_17 : decode cL_mute 17 = .ok (.ireturn, 1) := by decide +kernel
theorem dL_mute_18 : decode cL_mute 18 = .ok (.iconst 0, 1) := by decide +kernel
theorem dL_mute_19 : decode cL_mute 19 = .ok (.ireturn, 1) := by decide +kernel
theorem dL_unmute_0 : decode cL_unmute 0 = .ok (.aload_n 2, 1) := by decide +kernel
theorem dL_unmute_1 : decode cL_unmute 1 = .ok (.iconst 0, 1) := by decide +kernel
theorem dL_unmute_2 : decode cL_unmute 2 = .ok (.aload_n 0, 1) := by decide +kernel
theorem dL_unmute_3 : decode cL_unmute 3 = .ok (.iload_n 1, 1) := by decide +kernel
theorem dL_unmute_4 : decode cL_unmute 4 = .ok (.invokevirtual 70, 3) := by decide +kernel
theorem dL_unmute_7 : decode cL_unmute 7 = .ok (.i2l, 1) := by decide +kernel
theorem dL_unmute_8 : decode cL_unmute 8 = .ok (.lastore, 1) := by decide +kernel
theorem dL_unmute_9 : decode cL_unmute 9 = .ok (.goto 9, 3) := by decide +kernel
theorem dL_unmute_12 : decode cL_unmute 12 = .ok (.astore_n 3, 1) := by decide +kernel
theorem dL_unmute_13 : decode cL_unmute 13 = .ok (.iconst 1, 1) := by decide +kernel
theorem dL_unmute_14 : decode cL_unmute 14 = .ok (.ireturn, 1) := by decide +kernel
theorem dL_unmute_15 : decode cL_unmute 15 = .ok (.astore_n 3, 1) := by decide +kernel
theorem dL_unmute_16 : decode cL_unmute 16 = .ok (.iconst 2, 1) := by decide +kernel
theorem dL_unmute_17 : decode cL_unmute 17 = .ok (.ireturn, 1) := by decide +kernel
theorem dL_unmute_18 : decode cL_unmute 18 = .ok (.iconst 0, 1) := by decide +kernel
theorem dL_unmute_19 : decode cL_unmute 19 = .ok (.ireturn, 1) := by decide +kernel
theorem dL_retract_0 : decode cL_retract 0 = .ok (.aload_n 2, 1) := by decide +kernel
theorem dL_retract_1 : decode cL_retract 1 = .ok (.iconst 0, 1) := by decide +kernel
theorem dL_retract_2 : decode cL_retract 2 = .ok (.aload_n 0, 1) := by decide +kernel
theorem dL_retract_3 : decode cL_retract 3 = .ok (.iload_n 1, 1) := by decide +kernel
theorem dL_retract_4 : decode cL_retract 4 = .ok (.invokevirtual 73, 3) := by decide +kernel
theorem dL_retract_7 : decode cL_retract 7 = .ok (.i2l, 1) := by decide +kernel
theorem dL_retract_8 : decode cL_retract 8 = .ok (.lastore, 1) := by decide +kernel
theorem dL_retract_9 : decode cL_retract 9 = .ok (.goto 9, 3) := by decide +kernel
theorem dL_retract_12 : decode cL_retract 12 = .ok (.astore_n 3, 1) := by decide +kernel
theorem dL_retract_13 : decode cL_retract 13 = .ok (.iconst 1, 1) := by decide +kernel
theorem dL_retract_14 : decode cL_retract 14 = .ok (.ireturn, 1) := by decide +kernel
theorem dL_retract_15 : decode cL_retract 15 = .ok (.astore_n 3, 1) := by decide +kernel
theorem dL_retract_16 : decode cL_retract 16 = .ok (.iconst 2, 1) := by decide +kernel
theorem dL_retract_17 : decode cL_retract 17 = .ok (.ireturn, 1) := by decide +kernel
theorem dL_retract_18 : decode cL_retract 18 = .ok (.iconst 0, 1) := by decide +kernel
theorem dL_retract_19 : decode cL_retract 19 = .ok (.ireturn, 1) := by decide +kernel
theorem dL_saveSnapshot_0 : decode cL_saveSnapshot 0 = .ok (.aload_n 2, 1) := by decide +kernel
theorem dL_saveSnapshot_1 : decode cL_saveSnapshot 1 = .ok (.iconst 0, 1) := by decide +kernel
theorem dL_saveSnapshot_2 : decode cL_saveSnapshot 2 = .ok (.aload_n 0, 1) := by decide +kernel
theorem dL_saveSnapshot_3 : decode cL_saveSnapshot 3 = .ok (.iload_n 1, 1) := by decide +kernel
theorem dL_saveSnapshot_4 : decode cL_saveSnapshot 4 = .ok (.invokevirtual 76, 3) := by decide +kernel
theorem dL_saveSnapshot_7 : decode cL_saveSnapshot 7 = .ok (.ifCond .eq 7, 3) := by decide +kernel
theorem dL_saveSnapshot_10 : decode cL_saveSnapshot 10 = .ok (.lconst 1, 1) := by decide +kernel
theorem dL_saveSnapshot_11 : decode cL_saveSnapshot 11 = .ok (.goto 4, 3) := by decide +kernel
theorem dL_saveSnapshot_14 : decode cL_saveSnapshot 14 = .ok (.lconst 0, 1) := by decide +kernel
theorem dL_saveSnapshot_15 : decode cL_saveSnapshot 15 = .ok (.lastore, 1) := by decide +kernel
theorem dL_saveSnapshot_16 : decode cL_saveSnapshot 16 = .ok (.goto 6, 3) := by decide +kernel
theorem dL_saveSnapshot_19 : decode cL_saveSnapshot 19 = .ok (.astore_n 3, 1) := by decide +kernel
theorem dL_saveSnapshot_20 : decode cL_saveSnapshot 20 = .ok (.iconst 1, 1) := by decide +kernel
theorem dL_saveSnapshot_21 : decode cL_saveSnapshot 21 = .ok (.ireturn, 1) := by decide +kernel
theorem dL_saveSnapshot_22 : decode cL_saveSnapshot 22 = .ok (.iconst 0, 1) := by decide +kernel
theorem dL_saveSnapshot_23 : decode cL_saveSnapshot 23 = .ok (.ireturn, 1) := by decide +kernel
theorem dL_restoreSnapshot_0 : decode cL_restoreSnapshot 0 = .ok (.aload_n 2, 1) := by decide +kernel
theorem dL_restoreSnapshot_1 : decode cL_restoreSnapshot 1 = .ok (.iconst 0, 1) := by decide +kernel
theorem dL_restoreSnapshot_2 : decode cL_restoreSnapshot 2 = .ok (.aload_n 0, 1) := by decide +kernel
theorem dL_restoreSnapshot_3 : decode cL_restoreSnapshot 3 = .ok (.iload_n 1, 1) := by decide +kernel
theorem dL_restoreSnapshot_4 : decode cL_restoreSnapshot 4 = .ok (.invokevirtual 80, 3) := by decide +kernel
theorem dL_restoreSnapshot_7 : decode cL_restoreSnapshot 7 = .ok (.i2l, 1) := by decide +kernel
theorem dL_restoreSnapshot_8 : decode cL_restoreSnapshot 8 = .ok (.lastore, 1) := by decide +kernel
theorem dL_restoreSnapshot_9 : decode cL_restoreSnapshot 9 = .ok (.goto 9, 3) := by decide +kernel
theorem dL_restoreSnapshot_12 : decode cL_restoreSnapshot 12 = .ok (.astore_n 3, 1) := by decide +kernel
theorem dL_restoreSnapshot_13 : decode cL_restoreSnapshot 13 = .ok (.iconst 1, 1) := by decide +kernel
theorem dL_restoreSnapshot_14 : decode cL_restoreSnapshot 14 = .ok (.ireturn, 1) := by decide +kernel
theorem dL_restoreSnapshot_15 : decode cL_restoreSnapshot 15 = .ok (.astore_n 3, 1) := by decide +kernel
theorem dL_restoreSnapshot_16 : decode cL_restoreSnapshot 16 = .ok (.iconst 2, 1) := by decide +kernel
theorem dL_restoreSnapshot_17 : decode cL_restoreSnapshot 17 = .ok (.ireturn, 1) := by decide +kernel
theorem dL_restoreSnapshot_18 : decode cL_restoreSnapshot 18 = .ok (.iconst 0, 1) := by decide +kernel
theorem dL_restoreSnapshot_19 : decode cL_restoreSnapshot 19 = .ok (.ireturn, 1) := by decide +kernel
